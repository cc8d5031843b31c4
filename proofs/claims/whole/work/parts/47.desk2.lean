/-! FontDesk: put, metric, parameter, set -/
theorem sw.live {h : fx_H} {a pik pic pak pac pr : Nat} {I A : List sg} {x : sg} {tot : Int64} (E : sw h a pik pic pak pac I tot x A pr) : ∀ q, sS a pik pic pak pac q → h q ≠ none := by
  obtain ⟨fk, fc, gk, gc, ⟨e1, e2, e3, e4, e5, -⟩, -⟩ := E
  intro q hq
  rcases hq with rfl | rfl | rfl | rfl | rfl
  · rw [e1]; exact fun z => by cases z
  · rw [e2]; exact fun z => by cases z
  · rw [e3]; exact fun z => by cases z
  · rw [e4]; exact fun z => by cases z
  · rw [e5]; exact fun z => by cases z
theorem dr.live {h : fx_H} {a p n len : Nat} {B : Nat → Nat} (D : dr h a p n len B) : ∀ q, q = a ∨ q = p → h q ≠ none := by
  obtain ⟨h1, -, -, f, h2, -⟩ := D
  intro q hq
  rcases hq with rfl | rfl
  · rw [h1]; exact fun z => by cases z
  · rw [h2]; exact fun z => by cases z
theorem cd.setD {col : Nat → Nat} {h : fx_H} {x dq fq eq sq N len E L : Nat} {F : Nat → (Nat → Nat) × Nat × Int32} {B : Nat → Nat} {I : List sg} {T : Int64} {h' : fx_H} {pb cap p' n' len' : Nat} {B' : Nat → Nat} (C : cd col h x dq fq eq sq F N B len E I T L) (D : dr h dq pb cap len B) (c1 : col dq = 2) (c2 : col pb = 2) (D' : dr h' dq p' n' len' B') (hp : p' = pb ∨ h p' = none) (k : kp (fun q => q = dq ∨ q = pb) h h') : xt 2 col h (rc col 2 (fun q => q = dq ∨ q = p')) h' ∧ cd (rc col 2 (fun q => q = dq ∨ q = p')) h' x dq fq eq sq F N B' len' E I T L := by
  obtain ⟨c0, cx, CD, CF, CE, CS, clv, hL, hN, hI9, hfk⟩ := id C
  have X : xt 2 col h (rc col 2 (fun q => q = dq ∨ q = p')) h' := xt.of clv k (by decide) (fun q hq _ => by rcases hq with rfl | rfl; exact c1; exact c2) _ D'.live (fun q hq => by
    rcases hq with rfl | rfl
    · exact Or.inl c1
    · rcases hp with rfl | hp
      · exact Or.inl c2
      · exact Or.inr hp)
  have e0 := X.x c0 cx (by decide)
  exact ⟨X, e0.1, e0.2, ⟨p', n', D', rc_in (Or.inl rfl), rc_in (Or.inr rfl)⟩, CF.xt X (by decide) (fun k _ => by omega), CE.xt X (by decide), CS.xt X (by decide), X.2.1, hL, hN, hI9, hfk⟩
theorem cd.setS {col : Nat → Nat} {h : fx_H} {x dq fq eq sq N len E L : Nat} {F : Nat → (Nat → Nat) × Nat × Int32} {B : Nat → Nat} {I : List sg} {T : Int64} {h' : fx_H} {pik pic pak pac pr' : Nat} {I' A' : List sg} {x' : sg} {T' : Int64} (C : cd col h x dq fq eq sq F N B len E I T L) (cS : ∀ q, sS sq pik pic pak pac q → col q = 5) (S' : sw h' sq pik pic pak pac I' T' x' A' pr') (hI' : I'.length ≤ 1000) (k : kp (sS sq pik pic pak pac) h h') : xt 5 col h (rc col 5 (sS sq pik pic pak pac)) h' ∧ cd (rc col 5 (sS sq pik pic pak pac)) h' x dq fq eq sq F N B len E I' T' L := by
  obtain ⟨c0, cx, CD, CF, CE, CS, clv, hL, hN, hI9, hfk⟩ := id C
  have X : xt 5 col h (rc col 5 (sS sq pik pic pak pac)) h' := xt.of clv k (by decide) (fun q hq _ => cS q hq) _ S'.live (fun q hq => Or.inl (cS q hq))
  have e0 := X.x c0 cx (by decide)
  exact ⟨X, e0.1, e0.2, CD.xt X (by decide), CF.xt X (by decide) (fun k _ => by omega), CE.xt X (by decide), ⟨pik, pic, pak, pac, x', A', pr', S', fun q hq => rc_in hq⟩, X.2.1, hL, hN, hI', hfk⟩
theorem fo.xt {c c9 : Nat} {col col' : Nat → Nat} {h h' : fx_H} {ad nw : Nat} {b : Nat → Nat} {z : Int32} (H : fo (fun q => col q = c9) h ad b nw z) (x : xt c col h col' h') (h0 : c9 ≠ 0) (hc : c ≠ c9) : fo (fun q => col' q = c9) h' ad b nw z := by
  refine (H.kept (fun q hq => (x.1 q ?_ ?_).1)).sub (fun q hq => (x.1 q ?_ ?_).2.trans hq)
  · rw [show col q = c9 from hq]; exact h0
  · rw [show col q = c9 from hq]; exact fun z => hc z.symm
  · rw [show col q = c9 from hq]; exact h0
  · rw [show col q = c9 from hq]; exact fun z => hc z.symm
theorem fo.kc {c9 : Nat} {col : Nat → Nat} {h h' : fx_H} {S : Nat → Prop} {ad nw : Nat} {b : Nat → Nat} {z : Int32} (H : fo (fun q => col q = c9) h ad b nw z) (clv : ∀ q, col q ≠ 0 → h q ≠ none) (h0 : c9 ≠ 0) (k : kp S h h') (hS : ∀ q, S q → col q ≠ c9) : fo (fun q => col q = c9) h' ad b nw z :=
  H.kept (fun q hq => k q (clv q (by rw [show col q = c9 from hq]; exact h0)) (fun z => hS q z hq))
theorem dr.kc {h h' : fx_H} {S : Nat → Prop} {a p n len : Nat} {B : Nat → Nat} (D : dr h a p n len B) (k : kp S h h') (h1 : ¬ S a) (h2 : ¬ S p) : dr h' a p n len B := by
  have l1 := D.live a (Or.inl rfl)
  have l2 := D.live p (Or.inr rfl)
  obtain ⟨e1, e2, e3, f, e4, e5⟩ := D
  exact ⟨(k a l1 h1).trans e1, e2, e3, f, (k p l2 h2).trans e4, e5⟩
theorem c_cd_putN {g : fx_G} {col : Nat → Nat} {h : fx_H} {x dq fq eq sq N len E L : Nat} {F : Nat → (Nat → Nat) × Nat × Int32} {B : Nat → Nat} {I : List sg} {T : Int64} (C : cd col h x dq fq eq sq F N B len E I T L) (v : Int64) (y : Int32) (hy : ¬ putOk len y) : fx_Met g mX5_put 4 97 [.ref x, .long v, .int y] h 1 8192 (fun r h' => r = some (.int (nI 0)) ∧ h' = h) := by
  obtain ⟨c0, cx, CD, CF, CE, CS, clv, hL, hN, hI9, hfk⟩ := id C
  obtain ⟨pb, cap, D1, cD1, cD2⟩ := CD
  obtain ⟨d0, -⟩ := id D1
  refine fx_Met.of rfl (Nat.le_of_ble_eq_true rfl) ?_
  refine fx_aloadn dX5_put_0 rfl ?_
  refine fx_get dX5_put_1 ffX5_10 c0 rfl ?_
  refine fx_lloadn dX5_put_4 rfl ?_
  refine fx_iloadn dX5_put_5 rfl ?_
  refine fx_callV dX5_put_6 vX0_append kkX5_43 rfl rfl d0 (c_dr_appendN D1 v y hy 8192) rfl (by decide) (by decide) (Nat.le_refl _) (Nat.le_refl _) rfl (Nat.le_of_ble_eq_true rfl) (fun r1 h1 hk1 => ?_)
  obtain ⟨rfl, rfl⟩ := hk1
  refine fx_zret dX5_put_9 rfl rfl ?_
  exact ⟨rfl, rfl⟩
theorem c_cd_putY {g : fx_G} {col : Nat → Nat} {h : fx_H} {x dq fq eq sq N len E L : Nat} {F : Nat → (Nat → Nat) × Nat × Int32} {B : Nat → Nat} {I : List sg} {T : Int64} (C : cd col h x dq fq eq sq F N B len E I T L) (v : Int64) (m9 : Nat) (hm1 : 1 ≤ m9) (hm8 : m9 ≤ 8) (hlm : len + m9 ≤ 4096) : fx_Met g mX5_put 4 97 [.ref x, .long v, .int (nI m9)] h 1 8192 (fun r h' => r = some (.int (nI 1)) ∧ ∃ col', cd col' h' x dq fq eq sq F N (ap B len v m9) (len + m9) E I T L ∧ xs col h col' h') := by
  obtain ⟨c0, cx, CD, CF, CE, CS, clv, hL, hN, hI9, hfk⟩ := id C
  obtain ⟨pb, cap, D1, cD1, cD2⟩ := CD
  obtain ⟨d0, -⟩ := id D1
  refine fx_Met.of rfl (Nat.le_of_ble_eq_true rfl) ?_
  refine fx_aloadn dX5_put_0 rfl ?_
  refine fx_get dX5_put_1 ffX5_10 c0 rfl ?_
  refine fx_lloadn dX5_put_4 rfl ?_
  refine fx_iloadn dX5_put_5 rfl ?_
  refine fx_callV dX5_put_6 vX0_append kkX5_43 rfl rfl d0 (c_dr_append D1 v m9 8192 hm1 hm8 (by omega) (fun z => ⟨by omega, by omega⟩)) rfl (by decide) (by decide) (Nat.le_refl _) (Nat.le_refl _) rfl (Nat.le_of_ble_eq_true rfl) (fun r1 h1 hk1 => ?_)
  obtain ⟨rfl, p', n', D', -, hp, k1, -⟩ := hk1
  obtain ⟨X, C'⟩ := C.setD D1 cD1 cD2 D' hp k1
  refine fx_zret dX5_put_9 rfl rfl ?_
  exact ⟨rfl, _, C', X.s⟩
theorem c_cd_metricN {g : fx_G} {col : Nat → Nat} {h : fx_H} {x dq fq eq sq N len E L : Nat} {F : Nat → (Nat → Nat) × Nat × Int32} {B : Nat → Nat} {I : List sg} {T : Int64} (C : cd col h x dq fq eq sq F N B len E I T L) (f c y : Int32) (hx : noM F N f c y) : fx_MetX g mX5_metric 6 82 [.ref x, .int f, .int c, .int y] h 1 6 (fun _ _ => False) (fun E9 h' => E9 = fx_ioo ∧ h' = h) := by
  obtain ⟨c0, cx, CD, CF, CE, CS, clv, hL, hN, hI9, hfk⟩ := id C
  refine fx_MetX.of rfl (Nat.le_of_ble_eq_true rfl) ?_
  rcases hx with hx | ⟨k, hk, rfl, hx⟩
  · skip
    refine fx_aloadn dX5_metric_0 rfl ?_
    refine fx_iloadn dX5_metric_1 rfl ?_
    refine fx_callVp dX5_metric_2 vX5_fontAt kkX5_84 rfl rfl c0 (p_cd_fontN C f hx) rfl (by decide) (by decide) rfl (Nat.le_of_ble_eq_true rfl) ?_
    refine fx_astoreN dX5_metric_5 (by decide) ?_
    refine fx_aloadN dX5_metric_7 rfl ?_
    refine fx_ifnullN 30 dX5_metric_9 (by decide) ?_
    exact th_ioo (text := "no such font, character or what") rfl rfl (List.mem_of_getElem? (i := 2) rfl) dX5_metric_30 dX5_metric_33 dX5_metric_34 dX5_metric_36 dX5_metric_39 (by decide) (by decide) (by omega) (by omega) ⟨rfl, rfl⟩
  · obtain ⟨ad, H, hP⟩ := p_cd_fontY (g := g) C k hk
    have V := (hfk k hk).1
    obtain ⟨gf, f0⟩ := H.at
    by_cases hc : ml_iI (F k).1 c = 0
    · skip
      refine fx_aloadn dX5_metric_0 rfl ?_
      refine fx_iloadn dX5_metric_1 rfl ?_
      refine fx_callVp dX5_metric_2 vX5_fontAt kkX5_84 rfl rfl c0 hP rfl (by decide) (by decide) rfl (Nat.le_of_ble_eq_true rfl) ?_
      refine fx_astore dX5_metric_5 (by decide) ?_
      refine fx_aload dX5_metric_7 rfl ?_
      refine fx_ifnullR dX5_metric_9 ?_
      refine fx_aload dX5_metric_12 rfl ?_
      refine fx_iloadn dX5_metric_14 rfl ?_
      refine fx_callVp dX5_metric_15 vX3_hasCharacter kkX5_88 rfl rfl (by assumption) (p_fo_hasCharacter H V c) rfl (by decide) (by decide) rfl (Nat.le_of_ble_eq_true rfl) ?_
      refine fx_if_eq 30 dX5_metric_18 (by decide) (fun c18 => ?_) (fun c18 => absurd (bI_0.mpr (fun z => z hc)) c18)
      exact th_ioo (text := "no such font, character or what") rfl rfl (List.mem_of_getElem? (i := 2) rfl) dX5_metric_30 dX5_metric_33 dX5_metric_34 dX5_metric_36 dX5_metric_39 (by decide) (by decide) (by omega) (by omega) ⟨rfl, rfl⟩
    · rcases hx with (hy | hy) | ⟨q, hq, rfl, hc2⟩
      · skip
        refine fx_aloadn dX5_metric_0 rfl ?_
        refine fx_iloadn dX5_metric_1 rfl ?_
        refine fx_callVp dX5_metric_2 vX5_fontAt kkX5_84 rfl rfl c0 hP rfl (by decide) (by decide) rfl (Nat.le_of_ble_eq_true rfl) ?_
        refine fx_astore dX5_metric_5 (by decide) ?_
        refine fx_aload dX5_metric_7 rfl ?_
        refine fx_ifnullR dX5_metric_9 ?_
        refine fx_aload dX5_metric_12 rfl ?_
        refine fx_iloadn dX5_metric_14 rfl ?_
        refine fx_callVp dX5_metric_15 vX3_hasCharacter kkX5_88 rfl rfl (by assumption) (p_fo_hasCharacter H V c) rfl (by decide) (by decide) rfl (Nat.le_of_ble_eq_true rfl) ?_
        refine fx_if_eq 30 dX5_metric_18 (by decide) (fun c18 => absurd c18 (bI_n0.mpr hc)) (fun c18 => ?_)
        refine fx_iloadn dX5_metric_21 rfl ?_
        refine fx_if_lt 30 dX5_metric_22 (by decide) (fun c22 => ?_) (fun c22 => absurd (hy) c22)
        exact th_ioo (text := "no such font, character or what") rfl rfl (List.mem_of_getElem? (i := 2) rfl) dX5_metric_30 dX5_metric_33 dX5_metric_34 dX5_metric_36 dX5_metric_39 (by decide) (by decide) (by omega) (by omega) ⟨rfl, rfl⟩
      · have hy5 : ¬ y ≤ nI 5 := fun z => absurd (Int32.le_trans hy z) (by decide)
        have hy0 : ¬ y < 0 := fun z => absurd (Int32.le_trans hy (Int32.le_of_lt z)) (by decide)
        refine fx_aloadn dX5_metric_0 rfl ?_
        refine fx_iloadn dX5_metric_1 rfl ?_
        refine fx_callVp dX5_metric_2 vX5_fontAt kkX5_84 rfl rfl c0 hP rfl (by decide) (by decide) rfl (Nat.le_of_ble_eq_true rfl) ?_
        refine fx_astore dX5_metric_5 (by decide) ?_
        refine fx_aload dX5_metric_7 rfl ?_
        refine fx_ifnullR dX5_metric_9 ?_
        refine fx_aload dX5_metric_12 rfl ?_
        refine fx_iloadn dX5_metric_14 rfl ?_
        refine fx_callVp dX5_metric_15 vX3_hasCharacter kkX5_88 rfl rfl (by assumption) (p_fo_hasCharacter H V c) rfl (by decide) (by decide) rfl (Nat.le_of_ble_eq_true rfl) ?_
        refine fx_if_eq 30 dX5_metric_18 (by decide) (fun c18 => absurd c18 (bI_n0.mpr hc)) (fun c18 => ?_)
        refine fx_iloadn dX5_metric_21 rfl ?_
        refine fx_if_lt 30 dX5_metric_22 (by decide) (fun c22 => absurd c22 (hy0)) (fun c22 => ?_)
        refine fx_iloadn dX5_metric_25 rfl ?_
        refine fx_iconst (nI 5) dX5_metric_26 (by decide) ?_
        refine fx_icmp_le 40 dX5_metric_27 (by decide) (fun c27 => absurd c27 (hy5)) (fun c27 => ?_)
        exact th_ioo (text := "no such font, character or what") rfl rfl (List.mem_of_getElem? (i := 2) rfl) dX5_metric_30 dX5_metric_33 dX5_metric_34 dX5_metric_36 dX5_metric_39 (by decide) (by decide) (by omega) (by omega) ⟨rfl, rfl⟩
      · exact absurd hc2 hc
theorem c_cd_metricY {g : fx_G} {col : Nat → Nat} {h : fx_H} {x dq fq eq sq N len E L : Nat} {F : Nat → (Nat → Nat) × Nat × Int32} {B : Nat → Nat} {I : List sg} {T : Int64} (C : cd col h x dq fq eq sq F N B len E I T L) (k c q : Nat) (hk : k < N) (hc : c < 256) (hc0 : ml_i (F k).1 c ≠ 0) (hq : q < 6) : fx_MetX g mX5_metric 6 82 [.ref x, .int (nI k), .int (nI c), .int (nI q)] h 1 6 (fun r h' => r = some (.int (ml_ms (F k).1 (F k).2.2 (nI c) q)) ∧ h' = h) (fun _ _ => False) := by
  obtain ⟨c0, cx, CD, CF, CE, CS, clv, hL, hN, hI9, hfk⟩ := id C
  obtain ⟨ad, H, hP⟩ := p_cd_fontY (g := g) C k hk
  have V := (hfk k hk).1
  obtain ⟨gf, f0⟩ := H.at
  refine fx_MetX.of rfl (Nat.le_of_ble_eq_true rfl) ?_
  refine fx_aloadn dX5_metric_0 rfl ?_
  refine fx_iloadn dX5_metric_1 rfl ?_
  refine fx_callVp dX5_metric_2 vX5_fontAt kkX5_84 rfl rfl c0 hP rfl (by decide) (by decide) rfl (Nat.le_of_ble_eq_true rfl) ?_
  refine fx_astore dX5_metric_5 (by decide) ?_
  refine fx_aload dX5_metric_7 rfl ?_
  refine fx_ifnullR dX5_metric_9 ?_
  refine fx_aload dX5_metric_12 rfl ?_
  refine fx_iloadn dX5_metric_14 rfl ?_
  refine fx_callVp dX5_metric_15 vX3_hasCharacter kkX5_88 rfl rfl (by assumption) (p_fo_hasCharacter H V _) rfl (by decide) (by decide) rfl (Nat.le_of_ble_eq_true rfl) ?_
  refine fx_if_eq 30 dX5_metric_18 (by decide) (fun c18 => absurd c18 (bI_n0.mpr (by rw [ml_iI_n (by omega)]; exact hc0))) (fun c18 => ?_)
  refine fx_iloadn dX5_metric_21 rfl ?_
  refine fx_if_lt 30 dX5_metric_22 (by decide) (fun c22 => absurd c22 (nI_pos (by omega))) (fun c22 => ?_)
  refine fx_iloadn dX5_metric_25 rfl ?_
  refine fx_iconst (nI 5) dX5_metric_26 (by decide) ?_
  refine fx_icmp_le 40 dX5_metric_27 (by decide) (fun c27 => ?_) (fun c27 => absurd (nI_le (show q ≤ 5 by omega) (by decide)) c27)
  refine fx_aload dX5_metric_40 rfl ?_
  refine fx_iloadn dX5_metric_42 rfl ?_
  refine fx_iloadn dX5_metric_43 rfl ?_
  refine fx_callVp dX5_metric_44 vX3_measure kkX5_97 rfl rfl (by assumption) (p_fo_measure H V _ q hq) rfl (by decide) (by decide) rfl (Nat.le_of_ble_eq_true rfl) ?_
  refine fx_iret dX5_metric_47 rfl ?_
  exact ⟨rfl, rfl⟩
theorem c_cd_parameterN {g : fx_G} {col : Nat → Nat} {h : fx_H} {x dq fq eq sq N len E L : Nat} {F : Nat → (Nat → Nat) × Nat × Int32} {B : Nat → Nat} {I : List sg} {T : Int64} (C : cd col h x dq fq eq sq F N B len E I T L) (f y : Int32) (hx : noP N f y) : fx_MetX g mX5_parameter 6 82 [.ref x, .int f, .int y] h 1 6 (fun _ _ => False) (fun E9 h' => E9 = fx_ioo ∧ h' = h) := by
  obtain ⟨c0, cx, CD, CF, CE, CS, clv, hL, hN, hI9, hfk⟩ := id C
  refine fx_MetX.of rfl (Nat.le_of_ble_eq_true rfl) ?_
  rcases hx with hx | ⟨k, hk, rfl, hy⟩
  · skip
    refine fx_aloadn dX5_parameter_0 rfl ?_
    refine fx_iloadn dX5_parameter_1 rfl ?_
    refine fx_callVp dX5_parameter_2 vX5_fontAt kkX5_84 rfl rfl c0 (p_cd_fontN C f hx) rfl (by decide) (by decide) rfl (Nat.le_of_ble_eq_true rfl) ?_
    refine fx_astorenN dX5_parameter_5 (by decide) ?_
    refine fx_aloadnN dX5_parameter_6 rfl ?_
    refine fx_ifnullN 15 dX5_parameter_7 (by decide) ?_
    exact th_ioo (text := "no such font or parameter") rfl rfl (List.mem_of_getElem? (i := 3) rfl) dX5_parameter_15 dX5_parameter_18 dX5_parameter_19 dX5_parameter_21 dX5_parameter_24 (by decide) (by decide) (by omega) (by omega) ⟨rfl, rfl⟩
  · obtain ⟨ad, H, hP⟩ := p_cd_fontY (g := g) C k hk
    obtain ⟨gf, f0⟩ := H.at
    refine fx_aloadn dX5_parameter_0 rfl ?_
    refine fx_iloadn dX5_parameter_1 rfl ?_
    refine fx_callVp dX5_parameter_2 vX5_fontAt kkX5_84 rfl rfl c0 hP rfl (by decide) (by decide) rfl (Nat.le_of_ble_eq_true rfl) ?_
    refine fx_astoren dX5_parameter_5 (by decide) ?_
    refine fx_aloadn dX5_parameter_6 rfl ?_
    refine fx_ifnullR dX5_parameter_7 ?_
    refine fx_iloadn dX5_parameter_10 rfl ?_
    refine fx_iconst (nI 1) dX5_parameter_11 (by decide) ?_
    refine fx_icmp_ge 25 dX5_parameter_12 (by decide) (fun c12 => absurd c12 (Int32.not_le.mpr hy)) (fun c12 => ?_)
    exact th_ioo (text := "no such font or parameter") rfl rfl (List.mem_of_getElem? (i := 3) rfl) dX5_parameter_15 dX5_parameter_18 dX5_parameter_19 dX5_parameter_21 dX5_parameter_24 (by decide) (by decide) (by omega) (by omega) ⟨rfl, rfl⟩
theorem c_cd_parameterY {g : fx_G} {col : Nat → Nat} {h : fx_H} {x dq fq eq sq N len E L : Nat} {F : Nat → (Nat → Nat) × Nat × Int32} {B : Nat → Nat} {I : List sg} {T : Int64} (C : cd col h x dq fq eq sq F N B len E I T L) (k j : Nat) (hk : k < N) (hj : j + 1 < 2 ^ 31) : fx_MetX g mX5_parameter 6 82 [.ref x, .int (nI k), .int (nI (j + 1))] h 1 6 (fun r h' => r = some (.int (ml_pm (F k).1 (F k).2.2 j)) ∧ h' = h) (fun _ _ => False) := by
  obtain ⟨c0, cx, CD, CF, CE, CS, clv, hL, hN, hI9, hfk⟩ := id C
  obtain ⟨ad, H, hP⟩ := p_cd_fontY (g := g) C k hk
  have V := (hfk k hk).1
  obtain ⟨gf, f0⟩ := H.at
  refine fx_MetX.of rfl (Nat.le_of_ble_eq_true rfl) ?_
  refine fx_aloadn dX5_parameter_0 rfl ?_
  refine fx_iloadn dX5_parameter_1 rfl ?_
  refine fx_callVp dX5_parameter_2 vX5_fontAt kkX5_84 rfl rfl c0 hP rfl (by decide) (by decide) rfl (Nat.le_of_ble_eq_true rfl) ?_
  refine fx_astoren dX5_parameter_5 (by decide) ?_
  refine fx_aloadn dX5_parameter_6 rfl ?_
  refine fx_ifnullR dX5_parameter_7 ?_
  refine fx_iloadn dX5_parameter_10 rfl ?_
  refine fx_iconst (nI 1) dX5_parameter_11 (by decide) ?_
  refine fx_icmp_ge 25 dX5_parameter_12 (by decide) (fun c12 => ?_) (fun c12 => absurd (nI_le (show 1 ≤ j + 1 by omega) (by omega)) c12)
  refine fx_aloadn dX5_parameter_25 rfl ?_
  refine fx_iloadn dX5_parameter_26 rfl ?_
  refine fx_callVp dX5_parameter_27 vX3_scaledParameter kkX5_103 rfl rfl (by assumption) (p_fo_scaledParameter H V _) rfl (by decide) (by decide) rfl (Nat.le_of_ble_eq_true rfl) ?_
  refine fx_iret dX5_parameter_30 rfl ?_
  refine ⟨?_, rfl⟩
  unfold ml_pm
  rw [pk_sub (by omega), show j + 1 - 1 = j by omega, ml_eI_n 9 (by omega)]
  by_cases hj0 : j = 0
  · rw [if_pos hj0, if_pos (by rw [hj0]), hj0]
  · rw [if_neg hj0, if_neg (fun z => hj0 (by have := (nI_eq (by omega) (by decide)).mp z; omega))]
theorem mz_run_len {b : Nat → Nat} {z : Int32} : ∀ (n : Nat) (P : List sg) (x : sg) (A LL : List sg), P.length + 1 + A.length ≤ 1000 → mz_run b z n P x A = some LL → LL.length ≤ 1000 := by
  intro n
  induction n with
  | zero =>
    intro P x A LL h1 h2
    unfold mz_run at h2
    split at h2
    · cases h2
      rw [List.length_append]
      show P.length + 1 ≤ 1000
      omega
    · cases h2
  | succ n ih =>
    intro P x A LL h1 h2
    cases A with
    | nil =>
      cases h2
      rw [List.length_append]
      show P.length + 1 ≤ 1000
      omega
    | cons y A =>
      unfold mz_run at h2
      split at h2
      · cases h2
      · rename_i q
        exact ih _ _ _ LL (Nat.le_of_not_lt q) h2
theorem cd.un {col : Nat → Nat} {h : fx_H} {x dq fq eq sq N len E L : Nat} {F : Nat → (Nat → Nat) × Nat × Int32} {B : Nat → Nat} {I : List sg} {T : Int64} (C : cd col h x dq fq eq sq F N B len E I T L) : h x = some (.inr (4, [.ref dq, .ref fq, .ref eq, .ref sq, .int (nI N), .int (nI E)])) := C.1
theorem c_cd_setN {g : fx_G} {col : Nat → Nat} {h : fx_H} {x dq fq eq sq N len E L : Nat} {F : Nat → (Nat → Nat) × Nat × Int32} {B : Nat → Nat} {I : List sg} {T : Int64} (C0 : cd col h x dq fq eq sq F N B len E I T L) (f : Int32) (hx : noF N f) : fx_MetX g mX5_set 6 135 [.ref x, .int f] h 1 6 (fun _ _ => False) (fun E9 h' => E9 = fx_ioo ∧ ∃ col', cd col' h' x dq fq eq sq F N B 0 E [] 0 L ∧ xs col h col' h') := by
  have C := C0
  have hN : N ≤ 32 := C0.2.2.2.2.2.2.2.2.1
  obtain ⟨c0, cx, CD0, CF0, CE0, CS0, clv0, -⟩ := id C0
  obtain ⟨pb0, cap0, D0, cA0, cB0⟩ := CD0
  obtain ⟨d00, -⟩ := id D0
  obtain ⟨pik0, pic0, pak0, pac0, x0, A0, pr0, S0, cS0⟩ := CS0
  obtain ⟨gs0, s00⟩ := S0.at
  refine fx_MetX.of rfl (Nat.le_of_ble_eq_true rfl) ?_
  refine fx_aloadn dX5_set_0 rfl ?_
  refine fx_iloadn dX5_set_1 rfl ?_
  refine fx_callVp dX5_set_2 vX5_fontAt kkX5_84 rfl rfl c0 (p_cd_fontN C f hx) rfl (by decide) (by decide) rfl (Nat.le_of_ble_eq_true rfl) ?_
  refine fx_astorenN dX5_set_5 (by decide) ?_
  refine fx_aloadnN dX5_set_6 rfl ?_
  refine fx_ifnullN 29 dX5_set_7 (by decide) ?_
  refine fx_iconst (nI 0) dX5_set_29 (by decide) ?_
  refine fx_istoren dX5_set_30 (by decide) ?_
  refine fx_aloadn dX5_set_31 rfl ?_
  refine fx_get dX5_set_32 ffX5_10 c0 rfl ?_
  refine fx_callV dX5_set_35 vX0_clear kkX5_64 rfl rfl d00 (c_dr_clear D0) rfl (by decide) (by decide) (Nat.zero_le _) (Nat.zero_le _) rfl (Nat.le_of_ble_eq_true rfl) (fun r1 h1 hk1 => ?_)
  obtain ⟨rfl, p1', n1', D1', hp1, k1⟩ := hk1
  obtain ⟨X1, C1⟩ := C0.setD D0 cA0 cB0 D1' hp1 k1
  obtain ⟨c0, cx, CD1, CF1, CE1, CS1, clv1, -⟩ := id C1
  obtain ⟨pb1, cap1, D1, cA1, cB1⟩ := CD1
  obtain ⟨d10, -⟩ := id D1
  obtain ⟨pik1, pic1, pak1, pac1, x1, A1, pr1, S1, cS1⟩ := CS1
  obtain ⟨gs1, s10⟩ := S1.at
  refine fx_aloadnN dX5_set_38 rfl ?_
  refine fx_ifnonnullN dX5_set_39 ?_
  refine fx_aloadn dX5_set_42 rfl ?_
  refine fx_get dX5_set_43 ffX5_32 c0 rfl ?_
  refine fx_callV dX5_set_46 vX4_forget kkX5_111 rfl rfl s10 (c_se_forget S1) rfl (by decide) (by decide) (Nat.zero_le _) (Nat.zero_le _) rfl (Nat.le_of_ble_eq_true rfl) (fun r2 h2 hk2 => ?_)
  obtain ⟨rfl, S2', k2⟩ := hk2
  obtain ⟨X2, C2⟩ := C1.setS cS1 S2' (Nat.zero_le _) k2
  have c0 := C2.1
  exact th_ioo (text := "no such font") rfl rfl (List.mem_of_getElem? (i := 4) rfl) dX5_set_49 dX5_set_52 dX5_set_53 dX5_set_55 dX5_set_58 (by decide) (by decide) (by omega) (by omega) ⟨rfl, _, C2, X1.s.tr X2.s⟩
theorem c_cd_setY {g : fx_G} {col : Nat → Nat} {h : fx_H} {x dq fq eq sq N len E L : Nat} {F : Nat → (Nat → Nat) × Nat × Int32} {B : Nat → Nat} {I : List sg} {T : Int64} (C0 : cd col h x dq fq eq sq F N B len E I T L) (k : Nat) (hk : k < N) (hB : ∀ j, j < len → B j < 256) : fx_MetX g mX5_set 6 135 [.ref x, .int (nI k)] h 1 6 (fun r h' => ∃ LL, mz_ok9 (F k).1 B len ∧ mz_run (F k).1 (F k).2.2 10000 [] (3, nI 256) (wdf B 0 len ++ [(3, ml_bd (F k).1)]) = some LL ∧ r = some (.int (nI (nf LL).length)) ∧ ∃ col', cd col' h' x dq fq eq sq F N B 0 E (nf LL) (mz_w (F k).1 (F k).2.2 0 (nf LL)) L ∧ xs col h col' h') (fun E9 h' => (E9 = fx_iae ∧ ¬ mz_ok9 (F k).1 B len ∧ ∃ col', cd col' h' x dq fq eq sq F N B 0 E [] 0 L ∧ xs col h col' h') ∨ (E9 = fx_ise ∧ mz_ok9 (F k).1 B len ∧ mz_run (F k).1 (F k).2.2 10000 [] (3, nI 256) (wdf B 0 len ++ [(3, ml_bd (F k).1)]) = none ∧ ∃ col', cd col' h' x dq fq eq sq F N B 0 E [] 0 L ∧ xs col h col' h')) := by
  have C := C0
  have hN : N ≤ 32 := C0.2.2.2.2.2.2.2.2.1
  have hfk : foks F N := C0.2.2.2.2.2.2.2.2.2.2
  obtain ⟨c0, cx, CD0, CF0, CE0, CS0, clv0, -⟩ := id C0
  obtain ⟨pb0, cap0, D0, cA0, cB0⟩ := CD0
  obtain ⟨d00, -⟩ := id D0
  obtain ⟨pik0, pic0, pak0, pac0, x0, A0, pr0, S0, cS0⟩ := CS0
  obtain ⟨gs0, s00⟩ := S0.at
  obtain ⟨ad, H, hP⟩ := p_cd_fontY (g := g) C k hk
  have V := (hfk k hk).1
  obtain ⟨gf, f0⟩ := H.at
  have hLn : len ≤ 200 → ∀ LL, mz_run (F k).1 (F k).2.2 10000 [] (3, nI 256) (wdf B 0 len ++ [(3, ml_bd (F k).1)]) = some LL → LL.length ≤ 1000 := fun h9 LL hLL => mz_run_len 10000 [] _ _ LL (by rw [List.length_append, wdf_len]; show 0 + 1 + (len + 1) ≤ 1000; omega) hLL
  refine fx_MetX.of rfl (Nat.le_of_ble_eq_true rfl) ?_
  refine fx_aloadn dX5_set_0 rfl ?_
  refine fx_iloadn dX5_set_1 rfl ?_
  refine fx_callVp dX5_set_2 vX5_fontAt kkX5_84 rfl rfl c0 hP rfl (by decide) (by decide) rfl (Nat.le_of_ble_eq_true rfl) ?_
  refine fx_astoren dX5_set_5 (by decide) ?_
  refine fx_aloadn dX5_set_6 rfl ?_
  refine fx_ifnullR dX5_set_7 ?_
  refine fx_aloadn dX5_set_10 rfl ?_
  refine fx_get dX5_set_11 ffX5_32 c0 rfl ?_
  refine fx_aloadn dX5_set_14 rfl ?_
  refine fx_aloadn dX5_set_15 rfl ?_
  refine fx_get dX5_set_16 ffX5_10 c0 rfl ?_
  refine fx_callV dX5_set_19 vX4_begin kkX5_107 rfl rfl s00 (c_se_begin V (fun h' q => H.kc clv0 (by omega) q (fun q9 z => by rw [cS0 q9 z]; omega)) (fun h' q => D0.kc q (fun z => by have := cS0 _ z; omega) (fun z => by have := cS0 _ z; omega)) S0) rfl (by decide) (by decide) (Nat.zero_le _) (Nat.zero_le _) rfl (Nat.le_of_ble_eq_true rfl) (fun r1 h1 hk1 => ?_)
  obtain ⟨hr1, k1⟩ := hk1
  rcases hr1 with ⟨hok, rfl, S1'⟩ | ⟨hok, rfl, x1', A1', pr1', S1'⟩
  · obtain ⟨X1, C1⟩ := C0.setS cS0 S1' (Nat.zero_le _) k1
    obtain ⟨c0, cx, CD1, CF1, CE1, CS1, clv1, -⟩ := id C1
    obtain ⟨pb1, cap1, D1, cA1, cB1⟩ := CD1
    obtain ⟨d10, -⟩ := id D1
    obtain ⟨pik1, pic1, pak1, pac1, x1, A1, pr1, S1, cS1⟩ := CS1
    obtain ⟨gs1, s10⟩ := S1.at
    refine fx_if_eq 29 dX5_set_22 (by decide) (fun c22 => absurd c22 (by decide)) (fun c22 => ?_)
    refine fx_iconst (nI 1) dX5_set_25 (by decide) ?_
    refine fx_goto 30 dX5_set_26 (by decide) ?_
    refine fx_istoren dX5_set_30 (by decide) ?_
    refine fx_aloadn dX5_set_31 rfl ?_
    refine fx_get dX5_set_32 ffX5_10 c0 rfl ?_
    refine fx_callV dX5_set_35 vX0_clear kkX5_64 rfl rfl d10 (c_dr_clear D1) rfl (by decide) (by decide) (Nat.zero_le _) (Nat.zero_le _) rfl (Nat.le_of_ble_eq_true rfl) (fun r2 h2 hk2 => ?_)
    obtain ⟨rfl, p2', n2', D2', hp2, k2⟩ := hk2
    obtain ⟨X2, C2⟩ := C1.setD D1 cA1 cB1 D2' hp2 k2
    obtain ⟨c0, cx, CD2, CF2, CE2, CS2, clv2, -⟩ := id C2
    have hsk : ∀ q, sS sq pik0 pic0 pak0 pac0 q → h2 q = h1 q ∧ rc (rc col 5 (sS sq pik0 pic0 pak0 pac0)) 2 (fun q => q = dq ∨ q = p2') q = rc col 5 (sS sq pik0 pic0 pak0 pac0) q := fun q hq => X2.1 q (by rw [rc_in hq]; decide) (by rw [rc_in hq]; decide)
    have S2w := S1'.kept (fun q hq => (hsk q hq).1)
    have cS2 : ∀ q, sS sq pik0 pic0 pak0 pac0 q → rc (rc col 5 (sS sq pik0 pic0 pak0 pac0)) 2 (fun q => q = dq ∨ q = p2') q = 5 := fun q hq => (hsk q hq).2.trans (rc_in hq)
    obtain ⟨gs2, s20⟩ := S2w.at
    have H2 := (H.xt X1 (by omega) (by omega)).xt X2 (by omega) (by omega)
    obtain ⟨gf2, f20⟩ := H2.at
    refine fx_aloadn dX5_set_38 rfl ?_
    refine fx_ifnonnullR 59 dX5_set_39 (by decide) ?_
    refine fx_iloadn dX5_set_59 rfl ?_
    refine fx_if_ne 80 dX5_set_60 (by decide) (fun c60 => ?_) (fun c60 => absurd c60 (by decide))
    refine fx_aloadn dX5_set_80 rfl ?_
    refine fx_get dX5_set_81 ffX5_32 c0 rfl ?_
    refine fx_aloadn dX5_set_84 rfl ?_
    have S2r : sw h2 sq pik0 pic0 pak0 pac0 (nf []) 0 (3, nI 256) (wdf B 0 len ++ [(3, ml_bd (F k).1)]) (([] : List sg).length + 1 + (wdf B 0 len ++ [(3, ml_bd (F k).1)]).length) := S2w.to rfl (by rw [List.length_append, wdf_len]; show len + 2 = 0 + 1 + (len + 1); omega)
    refine fx_callV dX5_set_85 vX4_run kkX5_118 rfl rfl s20 (c_se_run V (fun h' q => H2.kc clv2 (by omega) q (fun q9 z => by rw [cS2 q9 z]; omega)) (f3_a (hfk k hk).2.1) (hfk k hk).2.2 S2r (by rw [List.length_append, wdf_len]; show 0 + 1 + (len + 1) ≤ 1000; have := hok.1; omega) ⟨(fun s hs => nomatch hs), Or.inr (Or.inl rfl), wdf_g (fun j hj => (hB j hj)) hok.2 len 0 (by omega)⟩) rfl (by decide) (by decide) (Nat.zero_le _) (Nat.zero_le _) rfl (Nat.le_of_ble_eq_true rfl) (fun r3 h3 hk3 => ?_)
    obtain ⟨hr3, k3⟩ := hk3
    rcases hr3 with ⟨LL, hL1, rfl, x3', A3', pr3', S3'⟩ | ⟨hL1, rfl, I3', T3', x3', A3', pr3', S3'⟩
    · obtain ⟨X3, C3⟩ := C2.setS cS2 S3' (Nat.le_trans (nf_le LL) (hLn hok.1 LL hL1)) k3
      have c0 := C3.1
      obtain ⟨gs3, s30⟩ := S3'.at
      refine fx_if_ne 108 dX5_set_88 (by decide) (fun c88 => ?_) (fun c88 => absurd c88 (by decide))
      refine fx_aloadn dX5_set_108 rfl ?_
      refine fx_get dX5_set_109 ffX5_32 c0 rfl ?_
      refine fx_callVp dX5_set_112 vX4_itemCount kkX5_123 rfl rfl s30 (p_se_itemCount S3') rfl (by decide) (by decide) rfl (Nat.le_of_ble_eq_true rfl) ?_
      refine fx_iret dX5_set_115 rfl ?_
      exact ⟨LL, hok, hL1, rfl, _, C3, (X1.s.tr X2.s).tr X3.s⟩
    · have e9 := (C2.1)
      have c0 : h3 x = _ := (k3 x (by rw [e9]; exact fun z => by cases z) (fun z => by have z1 := cS2 x z; have z2 := C2.2.1; omega)).trans e9
      obtain ⟨gs3, s30⟩ := S3'.at
      refine fx_if_ne 108 dX5_set_88 (by decide) (fun c88 => absurd (by decide) c88) (fun c88 => ?_)
      refine fx_aloadn dX5_set_91 rfl ?_
      refine fx_get dX5_set_92 ffX5_32 c0 rfl ?_
      refine fx_callV dX5_set_95 vX4_forget kkX5_111 rfl rfl s30 (c_se_forget S3') rfl (by decide) (by decide) (Nat.zero_le _) (Nat.zero_le _) rfl (Nat.le_of_ble_eq_true rfl) (fun r4 h4 hk4 => ?_)
      obtain ⟨rfl, S4', k4⟩ := hk4
      obtain ⟨X4, C4⟩ := C2.setS cS2 S4' (Nat.zero_le _) (k3.tr k4 (fun _ z _ => z))
      have c0 := C4.1
      exact th_ise (text := "the word grows too long, or takes too long") rfl rfl (List.mem_of_getElem? (i := 6) rfl) dX5_set_98 dX5_set_101 dX5_set_102 dX5_set_104 dX5_set_107 (by decide) (by decide) (by omega) (by omega) (Or.inr ⟨rfl, hok, hL1, _, C4, (X1.s.tr X2.s).tr X4.s⟩)
  · obtain ⟨X1, C1⟩ := C0.setS cS0 S1' (Nat.zero_le _) k1
    obtain ⟨c0, cx, CD1, CF1, CE1, CS1, clv1, -⟩ := id C1
    obtain ⟨pb1, cap1, D1, cA1, cB1⟩ := CD1
    obtain ⟨d10, -⟩ := id D1
    obtain ⟨pik1, pic1, pak1, pac1, x1, A1, pr1, S1, cS1⟩ := CS1
    obtain ⟨gs1, s10⟩ := S1.at
    refine fx_if_eq 29 dX5_set_22 (by decide) (fun c22 => ?_) (fun c22 => absurd (by decide) c22)
    refine fx_iconst (nI 0) dX5_set_29 (by decide) ?_
    refine fx_istoren dX5_set_30 (by decide) ?_
    refine fx_aloadn dX5_set_31 rfl ?_
    refine fx_get dX5_set_32 ffX5_10 c0 rfl ?_
    refine fx_callV dX5_set_35 vX0_clear kkX5_64 rfl rfl d10 (c_dr_clear D1) rfl (by decide) (by decide) (Nat.zero_le _) (Nat.zero_le _) rfl (Nat.le_of_ble_eq_true rfl) (fun r2 h2 hk2 => ?_)
    obtain ⟨rfl, p2', n2', D2', hp2, k2⟩ := hk2
    obtain ⟨X2, C2⟩ := C1.setD D1 cA1 cB1 D2' hp2 k2
    obtain ⟨c0, cx, CD2, CF2, CE2, CS2, clv2, -⟩ := id C2
    obtain ⟨pb2, cap2, D2, cA2, cB2⟩ := CD2
    obtain ⟨d20, -⟩ := id D2
    obtain ⟨pik2, pic2, pak2, pac2, x2, A2, pr2, S2, cS2⟩ := CS2
    obtain ⟨gs2, s20⟩ := S2.at
    refine fx_aloadn dX5_set_38 rfl ?_
    refine fx_ifnonnullR 59 dX5_set_39 (by decide) ?_
    refine fx_iloadn dX5_set_59 rfl ?_
    refine fx_if_ne 80 dX5_set_60 (by decide) (fun c60 => absurd (by decide) c60) (fun c60 => ?_)
    refine fx_aloadn dX5_set_63 rfl ?_
    refine fx_get dX5_set_64 ffX5_32 c0 rfl ?_
    refine fx_callV dX5_set_67 vX4_forget kkX5_111 rfl rfl s20 (c_se_forget S2) rfl (by decide) (by decide) (Nat.zero_le _) (Nat.zero_le _) rfl (Nat.le_of_ble_eq_true rfl) (fun r3 h3 hk3 => ?_)
    obtain ⟨rfl, S3', k3⟩ := hk3
    obtain ⟨X3, C3⟩ := C2.setS cS2 S3' (Nat.zero_le _) k3
    have c0 := C3.1
    exact th_iae (text := "the draft is no word of this font") rfl rfl (List.mem_of_getElem? (i := 5) rfl) dX5_set_70 dX5_set_73 dX5_set_74 dX5_set_76 dX5_set_79 (by decide) (by decide) (by omega) (by omega) (Or.inl ⟨rfl, hok, _, C3, (X1.s.tr X2.s).tr X3.s⟩)
