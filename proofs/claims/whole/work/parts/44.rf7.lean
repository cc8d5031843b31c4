/-! FontDeskModel: set -/
theorem c_rx_choose {g : fx_G} {h : fx_H} {m pb pf pz pt pp ph pk pc len nfo fl it : Nat} {fb ff fz ft fp fh fk fc : Nat → Int32} {th bs v9 : Int32} {wi : Int64} (E0 : rx h m pb pf pz pt pp ph pk pc fb ff fz ft fp fh fk fc th len nfo fl bs it wi) (k : Nat) (hk : k < nfo) (hn : nfo ≤ 32) (hv : ff k = v9) : fx_Met g mX6_choose 0 0 [.ref m, .int (nI k)] h 0 0 (fun r h' => r = some (.int (nI 1)) ∧ rx h' m pb pf pz pt pp ph pk pc fb ff fz ft fp fh fk fc th len nfo fl v9 it wi ∧ kp (rC m pb pf pz pt pp ph pk pc) h h') := by
  obtain ⟨e0, ⟨e1, e2, e3, e4, e5, e6, e7, e8⟩, -⟩ := id E0
  refine fx_Met.of rfl (Nat.le_of_ble_eq_true rfl) ?_
  refine fx_iloadn dX6_choose_0 rfl ?_
  refine fx_if_lt 16 dX6_choose_1 (by decide) (fun c1 => absurd c1 (nI_pos (by omega))) (fun c1 => ?_)
  refine fx_iloadn dX6_choose_4 rfl ?_
  refine fx_aloadn dX6_choose_5 rfl ?_
  refine fx_get dX6_choose_6 ffX6_45 (by assumption) rfl ?_
  refine fx_icmp_ge 16 dX6_choose_9 (by decide) (fun c9 => absurd c9 (nI_ge hk (by omega))) (fun c9 => ?_)
  refine fx_iconst (nI 1) dX6_choose_12 (by decide) ?_
  refine fx_goto 17 dX6_choose_13 (by decide) ?_
  refine fx_istoren dX6_choose_17 (by decide) ?_
  refine fx_aloadn dX6_choose_18 rfl ?_
  refine fx_iloadn dX6_choose_19 rfl ?_
  refine fx_if_eq 32 dX6_choose_20 (by decide) (fun c20 => absurd c20 (by decide)) (fun c20 => ?_)
  refine fx_aloadn dX6_choose_23 rfl ?_
  refine fx_get dX6_choose_24 ffX6_14 (by assumption) rfl ?_
  refine fx_iloadn dX6_choose_27 rfl ?_
  refine fx_iald dX6_choose_28 e2 (vp_in_nI (show k < 33 by omega) (by decide)) ?_
  rw [nI_clamp (by omega), hv]
  refine fx_goto 33 dX6_choose_29 (by decide) ?_
  refine fx_putV dX6_choose_33 ffX6_50 e0 rfl rfl (Nat.le_of_ble_eq_true rfl) (fun h1 q1 o1 => ?_)
  have k1 := kp.put (kp.rf (S := rC m pb pf pz pt pp ph pk pc)) o1 (Or.inl (Or.inl rfl))
  refine fx_iloadn dX6_choose_36 rfl ?_
  refine fx_zret dX6_choose_37 rfl rfl ?_
  exact ⟨rfl, E0.obj q1 o1, k1⟩
theorem rt.rs {h : fx_H} {m pb pf pz pt pp ph pk pc N n9 E k : Nat} {F : Nat → (Nat → Nat) × Nat × Int32} {B : Nat → Nat} {T : Int64} {th : Int32} {L : List sg} (H : rt h m pb pf pz pt pp ph pk pc F N B n9 E L T th k) (hl : L.length ≤ 1000) : rs h m pb pf pz pt pp ph pk pc F N B 0 E L T th := by
  obtain ⟨fb, ff, fz, ft, fp, fh, fk, fc, E0, hL, hv, hN, hro, hfk⟩ := H
  exact ⟨fb, ff, fz, ft, fp, fh, fk, fc, _, E0, ⟨hv.1, hv.2.1, fun i hi => absurd hi (Nat.not_lt_zero _)⟩, hL, hN, by omega, hl, hfk⟩
theorem l_rt_there {g : fx_G} {h : fx_H} {m pb pf pz pt pp ph pk pc N n9 E k : Nat} {F : Nat → (Nat → Nat) × Nat × Int32} {B : Nat → Nat} {T : Int64} {th : Int32} (hk : k < N) (V : ml_v (F k).1 (F k).2.1) (hB : ∀ j, j < n9 → B j < 256) {L : List sg} (H : rt h m pb pf pz pt pp ph pk pc F N B n9 E L T th k) (K : Option Value → fx_H → Prop) (J : ∀ lv : List (Nat × Value), fx_le [(0, .ref m), (1, .int (nI k)), (2, .int (nI n9)), (3, .int (bI (mz_ok9 (F k).1 B n9)))] lv → fx_Y g mX6_set 10 225 K (fun _ _ => False) 88 lv [] h 0 0) : ∀ (n j : Nat), j + n = n9 → fx_Y g mX6_set 10 225 K (fun _ _ => False) 50 [(0, .ref m), (1, .int (nI k)), (2, .int (nI n9)), (3, .int (bI (n9 ≤ 200 ∧ ∀ i, i < j → ml_i (F k).1 (B i) ≠ 0))), (4, .int (nI j))] [] h 0 0 := by
  have D := H.D hk
  obtain ⟨fb, ff, fz, ft, fp, fh, fk, fc, E0, hL, hv, hN, hro, hfk⟩ := id H
  obtain ⟨e0, ⟨e1, e2, e3, e4, e5, e6, e7, e8⟩, -⟩ := id E0
  intro n
  induction n using Nat.strongRecOn with
  | ind n ih =>
  intro j hn
  by_cases hn0 : n = 0
  · skip
    refine fx_iload dX6_set_50 rfl ?_
    refine fx_iloadn dX6_set_52 rfl ?_
    refine fx_icmp_ge 88 dX6_set_53 (by decide) (fun c53 => ?_) (fun c53 => absurd (nI_le (by omega) (by omega)) c53)
    have hj : n9 = j := by omega
    subst hj
    exact J _ ⟨rfl, rfl, rfl, rfl, trivial⟩
  · by_cases hg : n9 ≤ 200 ∧ ∀ i, i < j → ml_i (F k).1 (B i) ≠ 0
    · skip
      refine fx_iload dX6_set_50 rfl ?_
      refine fx_iloadn dX6_set_52 rfl ?_
      refine fx_icmp_ge 88 dX6_set_53 (by decide) (fun c53 => absurd c53 (nI_ge (show j < n9 by omega) (by omega))) (fun c53 => ?_)
      refine fx_iloadn dX6_set_56 rfl ?_
      refine fx_if_eq 88 dX6_set_57 (by decide) (fun c57 => absurd c57 (by rw [bI_t hg]; decide)) (fun c57 => ?_)
      refine fx_aloadn dX6_set_60 rfl ?_
      refine fx_aloadn dX6_set_61 rfl ?_
      refine fx_get dX6_set_62 ffX6_8 (by assumption) rfl ?_
      refine fx_aloadn dX6_set_65 rfl ?_
      refine fx_get dX6_set_66 ffX6_14 (by assumption) rfl ?_
      refine fx_aloadn dX6_set_69 rfl ?_
      refine fx_get dX6_set_70 ffX6_45 (by assumption) rfl ?_
      refine fx_iald dX6_set_73 e2 (vp_in_nI (show N < 33 by omega) (by decide)) ?_
      rw [nI_clamp (by omega), hv.1 N (Nat.le_refl _)]
      refine fx_iload dX6_set_74 rfl ?_
      refine fx_iadd dX6_set_76 ?_
      rw [nI_add]
      refine fx_iald dX6_set_77 e1 (vp_in_nI (show ro F N + j < 40000 by omega) (by decide)) ?_
      rw [nI_clamp (by omega), hv.2.2 j (by omega)]
      refine fx_callVp dX6_set_78 vX6_isThere kkX6_76 rfl rfl (by assumption) (p_rf_isThere D V (Nat.le_refl _) _) rfl (by decide) (by decide) rfl (Nat.le_of_ble_eq_true rfl) ?_
      refine fx_istoren dX6_set_81 (by decide) ?_
      refine fx_iinc (nI 1) dX6_set_82 rfl (by decide) (by decide) ?_
      refine fx_goto 50 dX6_set_85 (by decide) ?_
      simp only [nI_add]
      refine fx_to (ih (n - 1) (by omega) (j + 1) (by omega)) ⟨rfl, rfl, rfl, ?_, rfl, trivial⟩
      have hBj := hB j (by omega)
      show some (Value.int (bI (ml_iI (F k).1 (nI (B j)) ≠ 0))) = some (Value.int (bI (n9 ≤ 200 ∧ ∀ i, i < j + 1 → ml_i (F k).1 (B i) ≠ 0)))
      rw [ml_iI_n (by omega)]
      refine congrArg (fun x => some (Value.int x)) (bI_c ⟨fun q => ⟨hg.1, fun i hi => ?_⟩, fun q => q.2 j (by omega)⟩)
      by_cases e : i = j
      · rw [e]
        exact q
      · exact hg.2 i (by omega)
    · skip
      refine fx_iload dX6_set_50 rfl ?_
      refine fx_iloadn dX6_set_52 rfl ?_
      refine fx_icmp_ge 88 dX6_set_53 (by decide) (fun c53 => absurd c53 (nI_ge (show j < n9 by omega) (by omega))) (fun c53 => ?_)
      refine fx_iloadn dX6_set_56 rfl ?_
      refine fx_if_eq 88 dX6_set_57 (by decide) (fun c57 => ?_) (fun c57 => absurd (bI_0.mpr hg) c57)
      refine J _ ⟨rfl, rfl, rfl, ?_, trivial⟩
      show some (Value.int (bI (n9 ≤ 200 ∧ ∀ i, i < j → ml_i (F k).1 (B i) ≠ 0))) = some (Value.int (bI (mz_ok9 (F k).1 B n9)))
      rw [bI_f hg, bI_f (fun q => hg ⟨q.1, fun i hi => q.2 i (by omega)⟩)]
theorem l_rt_fin {g : fx_G} {h0 : fx_H} {m pb pf pz pt pp ph pk pc N n9 E k : Nat} {F : Nat → (Nat → Nat) × Nat × Int32} {B : Nat → Nat} {th : Int32} (hk : k < N) : ∀ (R D : List sg) (h : fx_H), rt h m pb pf pz pt pp ph pk pc F N B n9 E (D ++ R) (mz_w (F k).1 (F k).2.2 0 D) th k → (∀ s ∈ D ++ R, gsg (F k).1 s) → (D ++ R).length ≤ 1000 → kp (rC m pb pf pz pt pp ph pk pc) h0 h → fx_Y g mX6_set 10 225 (fun r h' => r = some (.int (nI (D ++ nf R).length)) ∧ rt h' m pb pf pz pt pp ph pk pc F N B n9 E (D ++ nf R) (mz_w (F k).1 (F k).2.2 0 (D ++ nf R)) th k ∧ kp (rC m pb pf pz pt pp ph pk pc) h0 h') (fun _ _ => False) 131 [(0, .ref m), (1, .int (nI k)), (5, .int (nI D.length))] [] h 0 0 := by
  intro R
  induction R with
  | nil =>
    intro D h H hg9 hl9 hk9
    have hl8 : D.length ≤ 1000 := by rw [List.append_nil] at hl9; exact hl9
    obtain ⟨fb, ff, fz, ft, fp, fh, fk, fc, E0, hL, hv, hN, hro, hfk⟩ := id H
    obtain ⟨e0, ⟨e1, e2, e3, e4, e5, e6, e7, e8⟩, -⟩ := id E0
    refine fx_iload dX6_set_131 rfl ?_
    refine fx_aloadn dX6_set_133 rfl ?_
    refine fx_get dX6_set_134 ffX6_145 (by assumption) rfl ?_
    refine fx_icmp_ge 211 dX6_set_137 (by decide) (fun c137 => ?_) (fun c137 => absurd (by rw [List.append_nil]; exact nI_le (Nat.le_refl _) (by omega)) c137)
    refine fx_aloadn dX6_set_211 rfl ?_
    refine fx_get dX6_set_212 ffX6_145 (by assumption) rfl ?_
    refine fx_iret dX6_set_215 rfl ?_
    refine ⟨rfl, ?_, hk9⟩
    show rt _ _ _ _ _ _ _ _ _ _ _ _ _ _ _ (D ++ []) (mz_w _ _ 0 (D ++ [])) _ _
    rw [List.append_nil]
    rw [List.append_nil] at H
    exact H
  | cons s R ih =>
    intro D h H hg9 hl9 hk9
    obtain ⟨fb, ff, fz, ft, fp, fh, fk, fc, E0, hL, hv, hN, hro, hfk⟩ := id H
    obtain ⟨e0, ⟨e1, e2, e3, e4, e5, e6, e7, e8⟩, -⟩ := id E0
    have hdl : D.length < (D ++ s :: R).length := by rw [List.length_append]; show _ < _ + (R.length + 1); omega
    have hgs := hg9 s (List.mem_append_right _ List.mem_cons_self)
    have hs1 : s.1 < 4 := by
      rcases hgs with q | q | q
      · exact q.k.2
      · omega
      · omega
    by_cases h3 : s.1 = 3
    · skip
      refine fx_iload dX6_set_131 rfl ?_
      refine fx_aloadn dX6_set_133 rfl ?_
      refine fx_get dX6_set_134 ffX6_145 (by assumption) rfl ?_
      refine fx_icmp_ge 211 dX6_set_137 (by decide) (fun c137 => absurd c137 (nI_ge hdl (by omega))) (fun c137 => ?_)
      refine fx_aloadn dX6_set_140 rfl ?_
      refine fx_get dX6_set_141 ffX6_31 (by assumption) rfl ?_
      refine fx_iload dX6_set_144 rfl ?_
      refine fx_iald dX6_set_146 e7 (vp_in_nI (show D.length < 1002 by omega) (by decide)) ?_
      rw [nI_clamp (by omega), hL.here.1]
      refine fx_iconst (nI 3) dX6_set_147 (by decide) ?_
      refine fx_icmp_ne 160 dX6_set_148 (by decide) (fun c148 => absurd (by rw [h3]) c148) (fun c148 => ?_)
      refine fx_aloadn dX6_set_151 rfl ?_
      refine fx_iload dX6_set_152 rfl ?_
      refine fx_callV dX6_set_154 vX6_close kkX6_152 rfl rfl e0 (c_rt_close H (by rw [List.length_append] at hl9 ⊢; have : (s :: R).length = R.length + 1 := rfl; omega)) rfl (by decide) (by decide) (Nat.zero_le _) (Nat.zero_le _) rfl (Nat.le_of_ble_eq_true rfl) (fun r1 h1 hk1 => ?_)
      obtain ⟨rfl, H1, k1⟩ := hk1
      refine fx_goto 131 dX6_set_157 (by decide) ?_
      have hnf : nf (s :: R) = nf R := by
        show nf ([s] ++ R) = _
        rw [nf_app, nf_0 h3, List.nil_append]
      rw [hnf]
      exact fx_to (ih D h1 H1 (fun t ht => hg9 t ((List.mem_append.mp ht).elim (fun q => List.mem_append_left _ q) (fun q => List.mem_append_right _ (List.mem_cons_of_mem _ q)))) (by rw [List.length_append] at hl9 ⊢; have : (s :: R).length = R.length + 1 := rfl; omega) (hk9.tr k1 (fun _ z _ => z))) ⟨rfl, rfl, rfl, trivial⟩
    · by_cases h2 : s.1 = 2
      · skip
        refine fx_iload dX6_set_131 rfl ?_
        refine fx_aloadn dX6_set_133 rfl ?_
        refine fx_get dX6_set_134 ffX6_145 (by assumption) rfl ?_
        refine fx_icmp_ge 211 dX6_set_137 (by decide) (fun c137 => absurd c137 (nI_ge hdl (by omega))) (fun c137 => ?_)
        refine fx_aloadn dX6_set_140 rfl ?_
        refine fx_get dX6_set_141 ffX6_31 (by assumption) rfl ?_
        refine fx_iload dX6_set_144 rfl ?_
        refine fx_iald dX6_set_146 e7 (vp_in_nI (show D.length < 1002 by omega) (by decide)) ?_
        rw [nI_clamp (by omega), hL.here.1]
        refine fx_iconst (nI 3) dX6_set_147 (by decide) ?_
        refine fx_icmp_ne 160 dX6_set_148 (by decide) (fun c148 => ?_) (fun c148 => absurd c148 (fun q => h3 ((nI_eq (by omega) (by decide)).mp q)))
        refine fx_aloadn dX6_set_160 rfl ?_
        refine fx_dup dX6_set_161 rfl ?_
        refine fx_get dX6_set_162 ffX6_166 (by assumption) rfl ?_
        refine fx_aloadn dX6_set_165 rfl ?_
        refine fx_get dX6_set_166 ffX6_31 (by assumption) rfl ?_
        refine fx_iload dX6_set_169 rfl ?_
        refine fx_iald dX6_set_171 e7 (vp_in_nI (show D.length < 1002 by omega) (by decide)) ?_
        rw [nI_clamp (by omega), hL.here.1]
        refine fx_iconst (nI 2) dX6_set_172 (by decide) ?_
        refine fx_icmp_ne 187 dX6_set_173 (by decide) (fun c173 => absurd (by rw [h2]) c173) (fun c173 => ?_)
        refine fx_aloadn dX6_set_176 rfl ?_
        refine fx_get dX6_set_177 ffX6_34 (by assumption) rfl ?_
        refine fx_iload dX6_set_180 rfl ?_
        refine fx_iald dX6_set_182 e8 (vp_in_nI (show D.length < 1002 by omega) (by decide)) ?_
        rw [nI_clamp (by omega), hL.here.2]
        refine fx_i2l dX6_set_183 ?_
        refine fx_goto 201 dX6_set_184 (by decide) ?_
        refine fx_ladd dX6_set_201 ?_
        refine fx_putV dX6_set_202 ffX6_166 e0 rfl rfl (Nat.le_of_ble_eq_true rfl) (fun h1 q1 o1 => ?_)
        refine fx_iinc (nI 1) dX6_set_205 rfl (by decide) (by decide) ?_
        refine fx_goto 131 dX6_set_208 (by decide) ?_
        simp only [nI_add]
        have H1 : rt h1 m pb pf pz pt pp ph pk pc F N B n9 E ((D ++ [s]) ++ R) (mz_w (F k).1 (F k).2.2 0 (D ++ [s])) th k := by
          refine ⟨fb, ff, fz, ft, fp, fh, fk, fc, ?_, by rw [List.append_assoc]; exact hL, hv, hN, hro, hfk⟩
          rw [mz_w_app, List.append_assoc]
          show rx h1 m pb pf pz pt pp ph pk pc fb ff fz ft fp fh fk fc th 0 N E (nI (ro F k)) (D ++ s :: R).length (mz_w (F k).1 (F k).2.2 0 D + (if s.1 = 2 then s.2 else ml_ms (F k).1 (F k).2.2 s.2 0).toInt64)
          rw [if_pos h2]
          exact E0.obj q1 o1
        have hnf : D ++ nf (s :: R) = (D ++ [s]) ++ nf R := by
          show D ++ nf ([s] ++ R) = _
          rw [nf_app, nf_1 h3, List.append_assoc]
        rw [hnf]
        exact fx_to (ih (D ++ [s]) h1 H1 (by rw [List.append_assoc]; exact hg9) (by rw [List.append_assoc]; exact hl9) (kp.put hk9 o1 (Or.inl (Or.inl rfl)))) ⟨rfl, rfl, by rw [List.length_append]; rfl, trivial⟩
      · obtain ⟨c, hc, hc2, hc0⟩ : ∃ c : Nat, c < 256 ∧ s.2 = nI c ∧ ml_i (F k).1 c ≠ 0 := by
          rcases hgs with q | q | q
          · exact q.2
          · exact absurd q h2
          · exact absurd q h3
        refine fx_iload dX6_set_131 rfl ?_
        refine fx_aloadn dX6_set_133 rfl ?_
        refine fx_get dX6_set_134 ffX6_145 (by assumption) rfl ?_
        refine fx_icmp_ge 211 dX6_set_137 (by decide) (fun c137 => absurd c137 (nI_ge hdl (by omega))) (fun c137 => ?_)
        refine fx_aloadn dX6_set_140 rfl ?_
        refine fx_get dX6_set_141 ffX6_31 (by assumption) rfl ?_
        refine fx_iload dX6_set_144 rfl ?_
        refine fx_iald dX6_set_146 e7 (vp_in_nI (show D.length < 1002 by omega) (by decide)) ?_
        rw [nI_clamp (by omega), hL.here.1]
        refine fx_iconst (nI 3) dX6_set_147 (by decide) ?_
        refine fx_icmp_ne 160 dX6_set_148 (by decide) (fun c148 => ?_) (fun c148 => absurd c148 (fun q => h3 ((nI_eq (by omega) (by decide)).mp q)))
        refine fx_aloadn dX6_set_160 rfl ?_
        refine fx_dup dX6_set_161 rfl ?_
        refine fx_get dX6_set_162 ffX6_166 (by assumption) rfl ?_
        refine fx_aloadn dX6_set_165 rfl ?_
        refine fx_get dX6_set_166 ffX6_31 (by assumption) rfl ?_
        refine fx_iload dX6_set_169 rfl ?_
        refine fx_iald dX6_set_171 e7 (vp_in_nI (show D.length < 1002 by omega) (by decide)) ?_
        rw [nI_clamp (by omega), hL.here.1]
        refine fx_iconst (nI 2) dX6_set_172 (by decide) ?_
        refine fx_icmp_ne 187 dX6_set_173 (by decide) (fun c173 => ?_) (fun c173 => absurd c173 (fun q => h2 ((nI_eq (by omega) (by decide)).mp q)))
        refine fx_aloadn dX6_set_187 rfl ?_
        refine fx_iloadn dX6_set_188 rfl ?_
        refine fx_aloadn dX6_set_189 rfl ?_
        refine fx_get dX6_set_190 ffX6_34 (by assumption) rfl ?_
        refine fx_iload dX6_set_193 rfl ?_
        refine fx_iald dX6_set_195 e8 (vp_in_nI (show D.length < 1002 by omega) (by decide)) ?_
        rw [nI_clamp (by omega), hL.here.2, hc2]
        refine fx_iconst (nI 0) dX6_set_196 (by decide) ?_
        refine fx_callVp dX6_set_197 vX6_metricOf kkX6_142 rfl rfl e0 (p_rt_metricOf H hk c 0 hc0 (by decide)) rfl (by decide) (by decide) rfl (Nat.le_of_ble_eq_true rfl) ?_
        rw [← hc2]
        refine fx_i2l dX6_set_200 ?_
        refine fx_ladd dX6_set_201 ?_
        refine fx_putV dX6_set_202 ffX6_166 e0 rfl rfl (Nat.le_of_ble_eq_true rfl) (fun h1 q1 o1 => ?_)
        refine fx_iinc (nI 1) dX6_set_205 rfl (by decide) (by decide) ?_
        refine fx_goto 131 dX6_set_208 (by decide) ?_
        simp only [nI_add]
        have H1 : rt h1 m pb pf pz pt pp ph pk pc F N B n9 E ((D ++ [s]) ++ R) (mz_w (F k).1 (F k).2.2 0 (D ++ [s])) th k := by
          refine ⟨fb, ff, fz, ft, fp, fh, fk, fc, ?_, by rw [List.append_assoc]; exact hL, hv, hN, hro, hfk⟩
          rw [mz_w_app, List.append_assoc]
          show rx h1 m pb pf pz pt pp ph pk pc fb ff fz ft fp fh fk fc th 0 N E (nI (ro F k)) (D ++ s :: R).length (mz_w (F k).1 (F k).2.2 0 D + (if s.1 = 2 then s.2 else ml_ms (F k).1 (F k).2.2 s.2 0).toInt64)
          rw [if_neg h2]
          exact E0.obj q1 o1
        have hnf : D ++ nf (s :: R) = (D ++ [s]) ++ nf R := by
          show D ++ nf ([s] ++ R) = _
          rw [nf_app, nf_1 h3, List.append_assoc]
        rw [hnf]
        exact fx_to (ih (D ++ [s]) h1 H1 (by rw [List.append_assoc]; exact hg9) (by rw [List.append_assoc]; exact hl9) (kp.put hk9 o1 (Or.inl (Or.inl rfl)))) ⟨rfl, rfl, by rw [List.length_append]; rfl, trivial⟩
theorem c_rs_setN {g : fx_G} {h : fx_H} {m pb pf pz pt pp ph pk pc N len E : Nat} {F : Nat → (Nat → Nat) × Nat × Int32} {B : Nat → Nat} {I : List sg} {T : Int64} {th : Int32} (H : rs h m pb pf pz pt pp ph pk pc F N B len E I T th) (x : Int32) (hx : noF N x) : fx_Met g mX6_set 10 225 [.ref m, .int x] h 0 0 (fun r h' => r = some (.int (nI 0)) ∧ rs h' m pb pf pz pt pp ph pk pc F N B 0 E [] 0 (nI 1) ∧ kp (rC m pb pf pz pt pp ph pk pc) h h') := by
  obtain ⟨fb, ff, fz, ft, fp, fh, fk, fc, bs, E0, hv, hI, hN, hro, hI9, hfk⟩ := H
  obtain ⟨e0, ⟨e1, e2, e3, e4, e5, e6, e7, e8⟩, -⟩ := id E0
  refine fx_Met.of rfl (Nat.le_of_ble_eq_true rfl) ?_
  refine fx_aloadn dX6_set_0 rfl ?_
  refine fx_get dX6_set_1 ffX6_41 (by assumption) rfl ?_
  refine fx_istoren dX6_set_4 (by decide) ?_
  refine fx_aloadn dX6_set_5 rfl ?_
  refine fx_iconst (nI 0) dX6_set_6 (by decide) ?_
  refine fx_putV dX6_set_7 ffX6_41 e0 rfl rfl (Nat.le_of_ble_eq_true rfl) (fun h1 q1 o1 => ?_)
  have E1 : rx h1 m pb pf pz pt pp ph pk pc fb ff fz ft fp fh fk fc th 0 N E bs I.length T := E0.obj q1 o1
  have k1 := kp.put (kp.rf (S := rC m pb pf pz pt pp ph pk pc)) o1 (Or.inl (Or.inl rfl))
  obtain ⟨e0, ⟨e1, e2, e3, e4, e5, e6, e7, e8⟩, -⟩ := id E1
  refine fx_aloadn dX6_set_10 rfl ?_
  refine fx_iconst (nI 0) dX6_set_11 (by decide) ?_
  refine fx_putV dX6_set_12 ffX6_145 e0 rfl rfl (Nat.le_of_ble_eq_true rfl) (fun h2 q2 o2 => ?_)
  have E2 : rx h2 m pb pf pz pt pp ph pk pc fb ff fz ft fp fh fk fc th 0 N E bs 0 T := E1.obj q2 o2
  have k2 := kp.put k1 o2 (Or.inl (Or.inl rfl))
  obtain ⟨e0, ⟨e1, e2, e3, e4, e5, e6, e7, e8⟩, -⟩ := id E2
  refine fx_aloadn dX6_set_15 rfl ?_
  refine fx_lconst 0 dX6_set_16 (by decide) ?_
  refine fx_putV dX6_set_17 ffX6_166 e0 rfl rfl (Nat.le_of_ble_eq_true rfl) (fun h3 q3 o3 => ?_)
  have E3 : rx h3 m pb pf pz pt pp ph pk pc fb ff fz ft fp fh fk fc th 0 N E bs 0 0 := E2.obj q3 o3
  have k3 := kp.put k2 o3 (Or.inl (Or.inl rfl))
  obtain ⟨e0, ⟨e1, e2, e3, e4, e5, e6, e7, e8⟩, -⟩ := id E3
  refine fx_aloadn dX6_set_20 rfl ?_
  refine fx_iloadn dX6_set_21 rfl ?_
  refine fx_callV dX6_set_22 vX6_choose kkX6_139 rfl rfl e0 (c_rs_chooseN (⟨fb, ff, fz, ft, fp, fh, fk, fc, bs, E3, ⟨hv.1, hv.2.1, fun i hi => absurd hi (Nat.not_lt_zero _)⟩, sl.nil, hN, by omega, Nat.zero_le _, hfk⟩ : rs h3 m pb pf pz pt pp ph pk pc F N B 0 E [] 0 th) x hx) rfl (by decide) (by decide) (Nat.zero_le _) (Nat.zero_le _) rfl (Nat.le_of_ble_eq_true rfl) (fun r4 h4 hk4 => ?_)
  obtain ⟨rfl, H4, k4⟩ := hk4
  obtain ⟨gs4, e0⟩ := H4.at
  refine fx_if_ne 34 dX6_set_25 (by decide) (fun c25 => absurd (rfl) c25) (fun c25 => ?_)
  refine fx_aloadn dX6_set_28 rfl ?_
  refine fx_iconst (nI 1) dX6_set_29 (by decide) ?_
  refine fx_callV dX6_set_30 vX6_fails kkX6_127 rfl rfl e0 (c_rs_fails H4 (nI 1)) rfl (by decide) (by decide) (Nat.zero_le _) (Nat.zero_le _) rfl (Nat.le_of_ble_eq_true rfl) (fun r5 h5 hk5 => ?_)
  obtain ⟨rfl, H5, k5⟩ := hk5
  refine fx_iret dX6_set_33 rfl ?_
  exact ⟨rfl, H5, k3.tr (k4.tr k5 (fun _ z _ => z)) (fun _ z _ => z)⟩
theorem l_rs_set {g : fx_G} {h0 h4 : fx_H} {m pb pf pz pt pp ph pk pc N len E k : Nat} {F : Nat → (Nat → Nat) × Nat × Int32} {B : Nat → Nat} {th : Int32} (hk : k < N) (V : ml_v (F k).1 (F k).2.1) (F3 : ml_F3a (F k).1) (F5 : ml_f5 (F k).1) (hB : ∀ j, j < len → B j < 256) (H4 : rt h4 m pb pf pz pt pp ph pk pc F N B len E [] 0 th k) (hk9 : kp (rC m pb pf pz pt pp ph pk pc) h0 h4) : fx_Y g mX6_set 10 225 (fun r h' => ((¬ mz_ok9 (F k).1 B len ∧ r = some (.int (nI 0)) ∧ rs h' m pb pf pz pt pp ph pk pc F N B 0 E [] 0 (nI 2)) ∨ (mz_ok9 (F k).1 B len ∧ mz_run (F k).1 (F k).2.2 10000 [] (3, nI 256) (wdf B 0 len ++ [(3, ml_bd (F k).1)]) = none ∧ r = some (.int (nI 0)) ∧ rs h' m pb pf pz pt pp ph pk pc F N B 0 E [] 0 (nI 3)) ∨ (mz_ok9 (F k).1 B len ∧ ∃ L, mz_run (F k).1 (F k).2.2 10000 [] (3, nI 256) (wdf B 0 len ++ [(3, ml_bd (F k).1)]) = some L ∧ L.length ≤ 1000 ∧ r = some (.int (nI (nf L).length)) ∧ rs h' m pb pf pz pt pp ph pk pc F N B 0 E (nf L) (mz_w (F k).1 (F k).2.2 0 (nf L)) 0)) ∧ kp (rC m pb pf pz pt pp ph pk pc) h0 h') (fun _ _ => False) 88 [(0, .ref m), (1, .int (nI k)), (2, .int (nI len)), (3, .int (bI (mz_ok9 (F k).1 B len)))] [] h4 0 0 := by
  obtain ⟨gs4, e0⟩ := H4.at
  by_cases hok : mz_ok9 (F k).1 B len
  · skip
    refine fx_iloadn dX6_set_88 rfl ?_
    refine fx_if_ne 98 dX6_set_89 (by decide) (fun c89 => ?_) (fun c89 => absurd c89 (bI_n0.mpr hok))
    refine fx_aloadn dX6_set_98 rfl ?_
    refine fx_iloadn dX6_set_99 rfl ?_
    refine fx_iloadn dX6_set_100 rfl ?_
    refine fx_callV dX6_set_101 vX6_setting kkX6_170 rfl rfl e0 (c_rt_setting hk V F3 F5 hok.1 hB hok.2 H4) rfl (by decide) (by decide) (Nat.zero_le _) (Nat.zero_le _) rfl (Nat.le_of_ble_eq_true rfl) (fun r5 h5 hk5 => ?_)
    obtain ⟨hr5, k5⟩ := hk5
    rcases hr5 with ⟨L, hL1, rfl, H5, hgL, hL9⟩ | ⟨hL1, rfl, L, H5⟩
    · skip
      refine fx_istore dX6_set_104 (by decide) ?_
      refine fx_iload dX6_set_106 rfl ?_
      refine fx_if_le 123 dX6_set_108 (by decide) (fun c108 => ?_) (fun c108 => absurd (by decide) c108)
      refine fx_aloadn dX6_set_123 rfl ?_
      refine fx_iconst (nI 0) dX6_set_124 (by decide) ?_
      obtain ⟨fb, ff, fz, ft, fp, fh, fk, fc, E5, hL5, hv, hN, hro, hfk⟩ := id H5
      refine fx_putV dX6_set_125 ffX6_37 E5.1 rfl rfl (Nat.le_of_ble_eq_true rfl) (fun h6 q6 o6 => ?_)
      have k6 := kp.put (kp.rf (S := rC m pb pf pz pt pp ph pk pc)) o6 (Or.inl (Or.inl rfl))
      have H6 : rt h6 m pb pf pz pt pp ph pk pc F N B len E L 0 0 k := ⟨fb, ff, fz, ft, fp, fh, fk, fc, E5.obj q6 o6, hL5, hv, hN, hro, hfk⟩
      refine fx_iconst (nI 0) dX6_set_128 (by decide) ?_
      refine fx_istore dX6_set_129 (by decide) ?_
      refine fx_to (fx_mono (fun r h7 hq => ?_) (fun _ _ q => q) (l_rt_fin (h0 := h0) hk L [] h6 H6 hgL hL9 (hk9.tr (k5.tr k6 (fun _ z _ => z)) (fun _ z _ => z)))) ⟨rfl, rfl, rfl, trivial⟩
      obtain ⟨q1, q2, q3⟩ := hq
      exact ⟨Or.inr (Or.inr ⟨hok, L, hL1, hL9, q1, q2.rs (Nat.le_trans (nf_le L) hL9)⟩), q3⟩
    · skip
      refine fx_istore dX6_set_104 (by decide) ?_
      refine fx_iload dX6_set_106 rfl ?_
      refine fx_if_le 123 dX6_set_108 (by decide) (fun c108 => absurd c108 (by decide)) (fun c108 => ?_)
      refine fx_aloadn dX6_set_111 rfl ?_
      refine fx_iconst (nI 0) dX6_set_112 (by decide) ?_
      obtain ⟨fb, ff, fz, ft, fp, fh, fk, fc, E5, hL5, hv, hN, hro, hfk⟩ := id H5
      refine fx_putV dX6_set_113 ffX6_145 E5.1 rfl rfl (Nat.le_of_ble_eq_true rfl) (fun h6 q6 o6 => ?_)
      have k6 := kp.put (kp.rf (S := rC m pb pf pz pt pp ph pk pc)) o6 (Or.inl (Or.inl rfl))
      have H6 : rt h6 m pb pf pz pt pp ph pk pc F N B len E [] 0 th k := ⟨fb, ff, fz, ft, fp, fh, fk, fc, E5.obj (it' := 0) q6 o6, sl.nil, hv, hN, hro, hfk⟩
      obtain ⟨gs6, e0⟩ := H6.at
      refine fx_aloadn dX6_set_116 rfl ?_
      refine fx_iload dX6_set_117 rfl ?_
      refine fx_callV dX6_set_119 vX6_fails kkX6_127 rfl rfl e0 (c_rs_fails (H6.rs (Nat.zero_le _)) (nI 3)) rfl (by decide) (by decide) (Nat.zero_le _) (Nat.zero_le _) rfl (Nat.le_of_ble_eq_true rfl) (fun r7 h7 hk7 => ?_)
      obtain ⟨rfl, H7, k7⟩ := hk7
      refine fx_iret dX6_set_122 rfl ?_
      exact ⟨Or.inr (Or.inl ⟨hok, hL1, rfl, H7⟩), hk9.tr (k5.tr (k6.tr k7 (fun _ z _ => z)) (fun _ z _ => z)) (fun _ z _ => z)⟩
  · skip
    refine fx_iloadn dX6_set_88 rfl ?_
    refine fx_if_ne 98 dX6_set_89 (by decide) (fun c89 => absurd (bI_0.mpr hok) c89) (fun c89 => ?_)
    refine fx_aloadn dX6_set_92 rfl ?_
    refine fx_iconst (nI 2) dX6_set_93 (by decide) ?_
    refine fx_callV dX6_set_94 vX6_fails kkX6_127 rfl rfl e0 (c_rs_fails (H4.rs (Nat.zero_le _)) (nI 2)) rfl (by decide) (by decide) (Nat.zero_le _) (Nat.zero_le _) rfl (Nat.le_of_ble_eq_true rfl) (fun r5 h5 hk5 => ?_)
    obtain ⟨rfl, H5, k5⟩ := hk5
    refine fx_iret dX6_set_97 rfl ?_
    exact ⟨Or.inl ⟨hok, rfl, H5⟩, hk9.tr k5 (fun _ z _ => z)⟩
theorem c_rs_setY {g : fx_G} {h : fx_H} {m pb pf pz pt pp ph pk pc N len E : Nat} {F : Nat → (Nat → Nat) × Nat × Int32} {B : Nat → Nat} {I : List sg} {T : Int64} {th : Int32} (H : rs h m pb pf pz pt pp ph pk pc F N B len E I T th) (k : Nat) (hk : k < N) (hB : ∀ j, j < len → B j < 256) : fx_Met g mX6_set 10 225 [.ref m, .int (nI k)] h 0 0 (fun r h' => ((¬ mz_ok9 (F k).1 B len ∧ r = some (.int (nI 0)) ∧ rs h' m pb pf pz pt pp ph pk pc F N B 0 E [] 0 (nI 2)) ∨ (mz_ok9 (F k).1 B len ∧ mz_run (F k).1 (F k).2.2 10000 [] (3, nI 256) (wdf B 0 len ++ [(3, ml_bd (F k).1)]) = none ∧ r = some (.int (nI 0)) ∧ rs h' m pb pf pz pt pp ph pk pc F N B 0 E [] 0 (nI 3)) ∨ (mz_ok9 (F k).1 B len ∧ ∃ L, mz_run (F k).1 (F k).2.2 10000 [] (3, nI 256) (wdf B 0 len ++ [(3, ml_bd (F k).1)]) = some L ∧ L.length ≤ 1000 ∧ r = some (.int (nI (nf L).length)) ∧ rs h' m pb pf pz pt pp ph pk pc F N B 0 E (nf L) (mz_w (F k).1 (F k).2.2 0 (nf L)) 0)) ∧ kp (rC m pb pf pz pt pp ph pk pc) h h') := by
  obtain ⟨fb, ff, fz, ft, fp, fh, fk, fc, bs, E0, hv, hI, hN, hro, hI9, hfk⟩ := H
  obtain ⟨e0, ⟨e1, e2, e3, e4, e5, e6, e7, e8⟩, -⟩ := id E0
  have V := (hfk k hk).1
  have F3 := f3_a (hfk k hk).2.1
  have F5 := (hfk k hk).2.2
  refine fx_Met.of rfl (Nat.le_of_ble_eq_true rfl) ?_
  refine fx_aloadn dX6_set_0 rfl ?_
  refine fx_get dX6_set_1 ffX6_41 (by assumption) rfl ?_
  refine fx_istoren dX6_set_4 (by decide) ?_
  refine fx_aloadn dX6_set_5 rfl ?_
  refine fx_iconst (nI 0) dX6_set_6 (by decide) ?_
  refine fx_putV dX6_set_7 ffX6_41 e0 rfl rfl (Nat.le_of_ble_eq_true rfl) (fun h1 q1 o1 => ?_)
  have E1 : rx h1 m pb pf pz pt pp ph pk pc fb ff fz ft fp fh fk fc th 0 N E bs I.length T := E0.obj q1 o1
  have k1 := kp.put (kp.rf (S := rC m pb pf pz pt pp ph pk pc)) o1 (Or.inl (Or.inl rfl))
  obtain ⟨e0, ⟨e1, e2, e3, e4, e5, e6, e7, e8⟩, -⟩ := id E1
  refine fx_aloadn dX6_set_10 rfl ?_
  refine fx_iconst (nI 0) dX6_set_11 (by decide) ?_
  refine fx_putV dX6_set_12 ffX6_145 e0 rfl rfl (Nat.le_of_ble_eq_true rfl) (fun h2 q2 o2 => ?_)
  have E2 : rx h2 m pb pf pz pt pp ph pk pc fb ff fz ft fp fh fk fc th 0 N E bs 0 T := E1.obj q2 o2
  have k2 := kp.put k1 o2 (Or.inl (Or.inl rfl))
  obtain ⟨e0, ⟨e1, e2, e3, e4, e5, e6, e7, e8⟩, -⟩ := id E2
  refine fx_aloadn dX6_set_15 rfl ?_
  refine fx_lconst 0 dX6_set_16 (by decide) ?_
  refine fx_putV dX6_set_17 ffX6_166 e0 rfl rfl (Nat.le_of_ble_eq_true rfl) (fun h3 q3 o3 => ?_)
  have E3 : rx h3 m pb pf pz pt pp ph pk pc fb ff fz ft fp fh fk fc th 0 N E bs 0 0 := E2.obj q3 o3
  have k3 := kp.put k2 o3 (Or.inl (Or.inl rfl))
  obtain ⟨e0, ⟨e1, e2, e3, e4, e5, e6, e7, e8⟩, -⟩ := id E3
  refine fx_aloadn dX6_set_20 rfl ?_
  refine fx_iloadn dX6_set_21 rfl ?_
  refine fx_callV dX6_set_22 vX6_choose kkX6_139 rfl rfl e0 (c_rx_choose E3 k hk hN (hv.1 k (by omega))) rfl (by decide) (by decide) (Nat.zero_le _) (Nat.zero_le _) rfl (Nat.le_of_ble_eq_true rfl) (fun r4 h4 hk4 => ?_)
  obtain ⟨rfl, E4, k4⟩ := hk4
  have H4 : rt h4 m pb pf pz pt pp ph pk pc F N B len E [] 0 th k := ⟨fb, ff, fz, ft, fp, fh, fk, fc, E4, sl.nil, hv, hN, hro, hfk⟩
  obtain ⟨gs4, e0⟩ := H4.at
  have k34 := k3.tr k4 (fun _ z _ => z)
  refine fx_if_ne 34 dX6_set_25 (by decide) (fun c25 => ?_) (fun c25 => absurd c25 (by decide))
  refine fx_iloadn dX6_set_34 rfl ?_
  refine fx_sipush (nI 200) dX6_set_35 (by decide) ?_
  refine fx_icn_gt 45 dX6_set_38 (by decide) (by omega) (by omega) (fun c38 => ?_) (fun c38 => ?_)
  · skip
    refine fx_iconst (nI 0) dX6_set_45 (by decide) ?_
    refine fx_istoren dX6_set_46 (by decide) ?_
    refine fx_iconst (nI 0) dX6_set_47 (by decide) ?_
    refine fx_istore dX6_set_48 (by decide) ?_
    refine fx_to (l_rt_there hk V hB H4 _ (fun lv hlv => fx_to (l_rs_set hk V F3 F5 hB H4 k34) hlv) len 0 (by omega)) ⟨rfl, rfl, rfl, ?_, rfl, trivial⟩
    rw [bI_f (fun q => absurd q.1 (by omega))]
    rfl
  · skip
    refine fx_iconst (nI 1) dX6_set_41 (by decide) ?_
    refine fx_goto 46 dX6_set_42 (by decide) ?_
    refine fx_istoren dX6_set_46 (by decide) ?_
    refine fx_iconst (nI 0) dX6_set_47 (by decide) ?_
    refine fx_istore dX6_set_48 (by decide) ?_
    refine fx_to (l_rt_there hk V hB H4 _ (fun lv hlv => fx_to (l_rs_set hk V F3 F5 hB H4 k34) hlv) len 0 (by omega)) ⟨rfl, rfl, rfl, ?_, rfl, trivial⟩
    rw [bI_t ⟨by omega, fun i hi => absurd hi (Nat.not_lt_zero _)⟩]
    rfl
