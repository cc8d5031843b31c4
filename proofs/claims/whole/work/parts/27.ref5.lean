/-! FontDeskModel: do the programs end? -/
def ra (h : fx_H) (a pt pp ph : Nat) (ft fp fh : Nat → Int32) : Prop := ∃ F : List Value, h a = some (.inr (5, F)) ∧ F[8]? = some (.ref pt) ∧ F[9]? = some (.ref pp) ∧ F[10]? = some (.ref ph) ∧ h pt = some (.inl (0, 65792, .inl ft)) ∧ h pp = some (.inl (0, 65792, .inl fp)) ∧ h ph = some (.inl (2, 257, .inl fh))
def rS (pt pp ph : Nat) : Nat → Prop := fun x => x = pt ∨ x = pp ∨ x = ph
theorem ra.sett {h h' : fx_H} {a pt pp ph : Nat} {ft fp fh f' : Nat → Int32} (E : ra h a pt pp ph ft fp fh) (N : pt ≠ pp) (q : h' pt = some (.inl (0, 65792, .inl f'))) (o : ∀ x, x ≠ pt → h' x = h x) : ra h' a pt pp ph f' fp fh := by
  obtain ⟨F, e1, e2, e3, e4, e5, e6, e7⟩ := E
  exact ⟨F, (o _ (ne_oa e1 e5)).trans e1, e2, e3, e4, q, (o _ (Ne.symm N)).trans e6, (o _ (ne_aa e7 e5 (by decide))).trans e7⟩
theorem ra.setp {h h' : fx_H} {a pt pp ph : Nat} {ft fp fh f' : Nat → Int32} (E : ra h a pt pp ph ft fp fh) (N : pt ≠ pp) (q : h' pp = some (.inl (0, 65792, .inl f'))) (o : ∀ x, x ≠ pp → h' x = h x) : ra h' a pt pp ph ft f' fh := by
  obtain ⟨F, e1, e2, e3, e4, e5, e6, e7⟩ := E
  exact ⟨F, (o _ (ne_oa e1 e6)).trans e1, e2, e3, e4, (o _ N).trans e5, q, (o _ (ne_aa e7 e6 (by decide))).trans e7⟩
theorem ra.seth {h h' : fx_H} {a pt pp ph : Nat} {ft fp fh f' : Nat → Int32} (E : ra h a pt pp ph ft fp fh) (q : h' ph = some (.inl (2, 257, .inl f'))) (o : ∀ x, x ≠ ph → h' x = h x) : ra h' a pt pp ph ft fp f' := by
  obtain ⟨F, e1, e2, e3, e4, e5, e6, e7⟩ := E
  exact ⟨F, (o _ (ne_oa e1 e7)).trans e1, e2, e3, e4, (o _ (ne_aa e5 e7 (by decide))).trans e5, (o _ (ne_aa e6 e7 (by decide))).trans e6, q⟩
/-- programs and steps, as the file has them -/
def rP (b : Nat → Nat) (ft fh : Nat → Int32) : Prop := (∀ x, x ≤ 256 → fh x = bI (ml_ps b x ≠ -1)) ∧ ∀ x y, x ≤ 256 → y < 256 → ml_ps b x ≠ -1 → ft (256 * x + y) = ml_tt b x y + nI 1
/-- what is known of the pairs -/
def rK (b : Nat → Nat) (fp : Nat → Int32) (G : Nat → Nat → Nat) : Prop := ∀ x y, x ≤ 256 → y < 256 → G x y ≤ 256 ∧ (ml_tt b x y = -1 → G x y = y + 1) ∧ (ml_tt b x y ≠ -1 → fp (256 * x + y) = nI (G x y)) ∧ (G x y ≠ 0 → ∃ n, ml_An b n x y = G x y)
def ml_lk (b : Nat → Nat) (G : Nat → Nat → Nat) (x y : Nat) : Nat := if 128 ≤ ml_o b (ml_tt b x y) ∨ ml_o b (ml_tt b x y) = 5 ∨ ml_o b (ml_tt b x y) = 11 then y + 1 else if ml_o b (ml_tt b x y) = 0 ∨ ml_o b (ml_tt b x y) = 6 then ml_r b (ml_tt b x y) + 1 else if ml_o b (ml_tt b x y) = 1 ∨ ml_o b (ml_tt b x y) = 7 then G (ml_r b (ml_tt b x y)) y else if ml_o b (ml_tt b x y) = 2 ∨ G x (ml_r b (ml_tt b x y)) = 0 then G x (ml_r b (ml_tt b x y)) else G (G x (ml_r b (ml_tt b x y)) - 1) y
theorem lk_le {b : Nat → Nat} {fp : Nat → Int32} {G : Nat → Nat → Nat} (K : rK b fp G) {x y : Nat} (hx : x ≤ 256) (hy : y < 256) : ml_lk b G x y ≤ 256 := by
  have hr := ml_r_lt (b := b) (ml_tt b x y)
  have h1 := (K x _ hx hr).1
  unfold ml_lk
  split
  · omega
  · split
    · omega
    · split
      · exact (K _ y (by omega) hy).1
      · split
        · exact h1
        · exact (K _ y (by omega) hy).1
theorem lk_an {b : Nat → Nat} {fp : Nat → Int32} {G : Nat → Nat → Nat} (K : rK b fp G) {x y : Nat} (hx : x ≤ 256) (hy : y < 256) (ht : ml_tt b x y ≠ -1) (h : ml_lk b G x y ≠ 0) : ∃ n, ml_An b n x y = ml_lk b G x y := by
  have hr := ml_r_lt (b := b) (ml_tt b x y)
  have h1 := K x _ hx hr
  unfold ml_lk at h ⊢
  by_cases e1 : 128 ≤ ml_o b (ml_tt b x y) ∨ ml_o b (ml_tt b x y) = 5 ∨ ml_o b (ml_tt b x y) = 11
  · refine ⟨1, ?_⟩
    unfold ml_An
    rw [if_neg ht, if_pos e1, if_pos e1]
  · rw [if_neg e1] at h ⊢
    by_cases e2 : ml_o b (ml_tt b x y) = 0 ∨ ml_o b (ml_tt b x y) = 6
    · refine ⟨1, ?_⟩
      unfold ml_An
      rw [if_neg ht, if_neg e1, if_pos e2, if_pos e2]
    · rw [if_neg e2] at h ⊢
      by_cases e3 : ml_o b (ml_tt b x y) = 1 ∨ ml_o b (ml_tt b x y) = 7
      · rw [if_pos e3] at h ⊢
        obtain ⟨n, hn⟩ := (K _ y (by omega) hy).2.2.2 h
        refine ⟨n + 1, ?_⟩
        unfold ml_An
        rw [if_neg ht, if_neg e1, if_neg e2, if_pos e3, hn]
      · rw [if_neg e3] at h ⊢
        by_cases e4 : ml_o b (ml_tt b x y) = 2
        · rw [if_pos (Or.inl e4)] at h ⊢
          obtain ⟨n, hn⟩ := h1.2.2.2 h
          refine ⟨n + 1, ?_⟩
          unfold ml_An
          rw [if_neg ht, if_neg e1, if_neg e2, if_neg e3, if_pos e4, hn]
        · by_cases e5 : G x (ml_r b (ml_tt b x y)) = 0
          · rw [if_pos (Or.inr e5)] at h
            exact absurd e5 h
          · rw [if_neg (fun q => q.elim e4 e5)] at h ⊢
            have hm := h1.1
            obtain ⟨n, hn⟩ := h1.2.2.2 e5
            obtain ⟨m, hm2⟩ := (K _ y (by omega) hy).2.2.2 h
            have q1 : ml_An b (max n m) x (ml_r b (ml_tt b x y)) = G x (ml_r b (ml_tt b x y)) := (an_le (Nat.le_max_left n m) (by rw [hn]; exact e5)).trans hn
            have q2 : ml_An b (max n m) (G x (ml_r b (ml_tt b x y)) - 1) y = G (G x (ml_r b (ml_tt b x y)) - 1) y := (an_le (Nat.le_max_right n m) (by rw [hm2]; exact h)).trans hm2
            refine ⟨max n m + 1, ?_⟩
            unfold ml_An
            rw [if_neg ht, if_neg e1, if_neg e2, if_neg e3, if_neg e4, q1, if_neg e5, q2]
/-- nothing more is learned: then nothing more is to be known -/
theorem lk_stuck {b : Nat → Nat} {fp : Nat → Int32} {G : Nat → Nat → Nat} (K : rK b fp G) (hs : ∀ x y, x ≤ 256 → y < 256 → ml_tt b x y ≠ -1 → G x y = 0 → ml_lk b G x y = 0) : ∀ (n x y : Nat), x ≤ 256 → y < 256 → ml_An b n x y ≠ 0 → G x y ≠ 0 := by
  intro n
  induction n with
  | zero =>
    intro x y hx hy h
    by_cases ht : ml_tt b x y = -1
    · rw [(K x y hx hy).2.1 ht]
      omega
    · unfold ml_An at h
      rw [if_neg ht] at h
      exact absurd rfl h
  | succ n ih =>
    intro x y hx hy h
    by_cases ht : ml_tt b x y = -1
    · rw [(K x y hx hy).2.1 ht]
      omega
    · intro h0
      have hr := ml_r_lt (b := b) (ml_tt b x y)
      have hl := hs x y hx hy ht h0
      unfold ml_An at h
      rw [if_neg ht] at h
      unfold ml_lk at hl
      by_cases e1 : 128 ≤ ml_o b (ml_tt b x y) ∨ ml_o b (ml_tt b x y) = 5 ∨ ml_o b (ml_tt b x y) = 11
      · rw [if_pos e1] at hl
        omega
      · rw [if_neg e1] at h hl
        by_cases e2 : ml_o b (ml_tt b x y) = 0 ∨ ml_o b (ml_tt b x y) = 6
        · rw [if_pos e2] at hl
          omega
        · rw [if_neg e2] at h hl
          by_cases e3 : ml_o b (ml_tt b x y) = 1 ∨ ml_o b (ml_tt b x y) = 7
          · rw [if_pos e3] at h hl
            exact ih _ y (by omega) hy h hl
          · rw [if_neg e3] at h hl
            by_cases e4 : ml_o b (ml_tt b x y) = 2
            · rw [if_pos e4] at h
              rw [if_pos (Or.inl e4)] at hl
              exact ih x _ hx hr h hl
            · rw [if_neg e4] at h
              by_cases e5 : ml_An b n x (ml_r b (ml_tt b x y)) = 0
              · rw [if_pos e5] at h
                exact absurd rfl h
              · rw [if_neg e5] at h
                have e6 := ih x _ hx hr e5
                rw [if_neg (fun q => q.elim e4 e6)] at hl
                obtain ⟨m, hm⟩ := (K x _ hx hr).2.2.2 e6
                have e7 := an_det e5 (show ml_An b m x (ml_r b (ml_tt b x y)) ≠ 0 by rw [hm]; exact e6)
                have hle := (K x _ hx hr).1
                rw [e7, hm] at h
                exact ih _ y (by omega) hy h hl
theorem rK.put {b : Nat → Nat} {fp : Nat → Int32} {G : Nat → Nat → Nat} (K : rK b fp G) {x y v : Nat} (hx : x ≤ 256) (hy : y < 256) (ht : ml_tt b x y ≠ -1) (hv : v ≤ 256) (hn : v ≠ 0 → ∃ n, ml_An b n x y = v) : rK b (upd fp (256 * x + y) (nI v)) (fun x' y' => if x' = x ∧ y' = y then v else G x' y') := by
  intro x' y' hx' hy'
  by_cases q : x' = x ∧ y' = y
  · obtain ⟨rfl, rfl⟩ := q
    simp only [and_self, if_true]
    exact ⟨hv, fun z => absurd z ht, fun _ => pk_us, hn⟩
  · simp only [if_neg q]
    rw [pk_un (fun z => q ⟨by omega, by omega⟩)]
    exact K x' y' hx' hy'

theorem p_rf_behind {g : fx_G} {h : fx_H} {a pt pp ph : Nat} {ft fp fh : Nat → Int32} {b : Nat → Nat} {G : Nat → Nat → Nat} (E : ra h a pt pp ph ft fp fh) (P9 : rP b ft fh) (K9 : rK b fp G) {nw : Nat} (V : ml_v b nw) (F3 : ml_F3a b) (F5 : ml_f5 b) (x y : Nat) (hx : x ≤ 256) (hy : y < 256) : fx_P g mX6_behind 0 0 [.ref a, .int (nI x), .int (nI y)] h (.int (nI (G x y))) := by
  obtain ⟨F, g1, g8, g9, g10, t1, t2, t3⟩ := id E
  refine fx_Met.of rfl (Nat.le_of_ble_eq_true rfl) ?_
  by_cases hp : ml_ps b x = -1
  · skip
    refine fx_aloadn dX6_behind_0 rfl ?_
    refine fx_get dX6_behind_1 ffX6_27 (by assumption) (by assumption) ?_
    refine fx_iloadn dX6_behind_4 rfl ?_
    refine fx_zald dX6_behind_5 t3 (vp_in_nI (show x < 257 by omega) (by decide)) ?_
    rw [nI_clamp (by omega), P9.1 x hx]
    refine fx_if_eq 24 dX6_behind_6 (by decide) (fun c6 => ?_) (fun c6 => absurd (bI_0.mpr (fun q => q hp)) c6)
    refine fx_iloadn dX6_behind_24 rfl ?_
    refine fx_iconst (nI 1) dX6_behind_25 (by decide) ?_
    refine fx_iadd dX6_behind_26 ?_
    refine fx_goto 42 dX6_behind_27 (by decide) ?_
    refine fx_iret dX6_behind_42 rfl ?_
    exact ⟨by rw [(K9 x y hx hy).2.1 (tt_nops hp), nI_add], rfl⟩
  · by_cases ht : ml_tt b x y = -1
    · skip
      refine fx_aloadn dX6_behind_0 rfl ?_
      refine fx_get dX6_behind_1 ffX6_27 (by assumption) (by assumption) ?_
      refine fx_iloadn dX6_behind_4 rfl ?_
      refine fx_zald dX6_behind_5 t3 (vp_in_nI (show x < 257 by omega) (by decide)) ?_
      rw [nI_clamp (by omega), P9.1 x hx]
      refine fx_if_eq 24 dX6_behind_6 (by decide) (fun c6 => absurd c6 (bI_n0.mpr hp)) (fun c6 => ?_)
      refine fx_aloadn dX6_behind_9 rfl ?_
      refine fx_get dX6_behind_10 ffX6_21 (by assumption) (by assumption) ?_
      refine fx_sipush (nI 256) dX6_behind_13 (by decide) ?_
      refine fx_iloadn dX6_behind_16 rfl ?_
      refine fx_imul dX6_behind_17 ?_
      refine fx_iloadn dX6_behind_18 rfl ?_
      refine fx_iadd dX6_behind_19 ?_
      rw [pk_mul, nI_add]
      refine fx_iald dX6_behind_20 t1 (vp_in_nI (show 256 * x + y < 65792 by omega) (by decide)) ?_
      rw [nI_clamp (by omega), P9.2 x y hx hy hp]
      refine fx_if_ne 30 dX6_behind_21 (by decide) (fun c21 => absurd (by rw [ht]; decide) c21) (fun c21 => ?_)
      refine fx_iloadn dX6_behind_24 rfl ?_
      refine fx_iconst (nI 1) dX6_behind_25 (by decide) ?_
      refine fx_iadd dX6_behind_26 ?_
      refine fx_goto 42 dX6_behind_27 (by decide) ?_
      refine fx_iret dX6_behind_42 rfl ?_
      exact ⟨by rw [(K9 x y hx hy).2.1 ht, nI_add], rfl⟩
    · skip
      refine fx_aloadn dX6_behind_0 rfl ?_
      refine fx_get dX6_behind_1 ffX6_27 (by assumption) (by assumption) ?_
      refine fx_iloadn dX6_behind_4 rfl ?_
      refine fx_zald dX6_behind_5 t3 (vp_in_nI (show x < 257 by omega) (by decide)) ?_
      rw [nI_clamp (by omega), P9.1 x hx]
      refine fx_if_eq 24 dX6_behind_6 (by decide) (fun c6 => absurd c6 (bI_n0.mpr hp)) (fun c6 => ?_)
      refine fx_aloadn dX6_behind_9 rfl ?_
      refine fx_get dX6_behind_10 ffX6_21 (by assumption) (by assumption) ?_
      refine fx_sipush (nI 256) dX6_behind_13 (by decide) ?_
      refine fx_iloadn dX6_behind_16 rfl ?_
      refine fx_imul dX6_behind_17 ?_
      refine fx_iloadn dX6_behind_18 rfl ?_
      refine fx_iadd dX6_behind_19 ?_
      rw [pk_mul, nI_add]
      refine fx_iald dX6_behind_20 t1 (vp_in_nI (show 256 * x + y < 65792 by omega) (by decide)) ?_
      rw [nI_clamp (by omega), P9.2 x y hx hy hp]
      refine fx_if_ne 30 dX6_behind_21 (by decide) (fun c21 => ?_) (fun c21 => absurd c21 (fun q => ht ((tt1 V F3 F5 hx).mp q)))
      refine fx_aloadn dX6_behind_30 rfl ?_
      refine fx_get dX6_behind_31 ffX6_24 (by assumption) (by assumption) ?_
      refine fx_sipush (nI 256) dX6_behind_34 (by decide) ?_
      refine fx_iloadn dX6_behind_37 rfl ?_
      refine fx_imul dX6_behind_38 ?_
      refine fx_iloadn dX6_behind_39 rfl ?_
      refine fx_iadd dX6_behind_40 ?_
      rw [pk_mul, nI_add]
      refine fx_iald dX6_behind_41 t2 (vp_in_nI (show 256 * x + y < 65792 by omega) (by decide)) ?_
      rw [nI_clamp (by omega)]
      refine fx_iret dX6_behind_42 rfl ?_
      exact ⟨by rw [(K9 x y hx hy).2.2.1 ht], rfl⟩
theorem p_rf_looked {g : fx_G} {h : fx_H} {a pt pp ph : Nat} {ft fp fh : Nat → Int32} {b : Nat → Nat} {G : Nat → Nat → Nat} (E : ra h a pt pp ph ft fp fh) (P9 : rP b ft fh) (K9 : rK b fp G) {nw lim : Nat} (D : rd h a b lim) (V : ml_v b nw) (hl : 4 * nw ≤ lim) (F3 : ml_F3a b) (F5 : ml_f5 b) (x y : Nat) (hx : x ≤ 256) (hy : y < 256) (ht : ml_tt b x y ≠ -1) : fx_P g mX6_looked 6 130 [.ref a, .int (nI x), .int (nI y)] h (.int (nI (ml_lk b G x y))) := by
  have hp : ml_ps b x ≠ -1 := fun z => ht (tt_nops z)
  have hNL := V.rl (r := 6) (by decide)
  rcases tt_ok1 V F3 F5 (y := y) hx with z | ⟨j, hj, htj⟩
  · exact absurd z ht
  have hr := ml_r_lt (b := b) (nI j)
  have hol := ml_o_lt (b := b) (nI j)
  have hGr := (K9 x _ hx hr).1
  obtain ⟨F, g1, g8, g9, g10, t1, t2, t3⟩ := id E
  refine fx_Met.of rfl (Nat.le_of_ble_eq_true rfl) ?_
  refine fx_aloadn dX6_looked_0 rfl ?_
  refine fx_get dX6_looked_1 ffX6_21 (by assumption) (by assumption) ?_
  refine fx_sipush (nI 256) dX6_looked_4 (by decide) ?_
  refine fx_iloadn dX6_looked_7 rfl ?_
  refine fx_imul dX6_looked_8 ?_
  refine fx_iloadn dX6_looked_9 rfl ?_
  refine fx_iadd dX6_looked_10 ?_
  rw [pk_mul, nI_add]
  refine fx_iald dX6_looked_11 t1 (vp_in_nI (show 256 * x + y < 65792 by omega) (by decide)) ?_
  rw [nI_clamp (by omega), P9.2 x y hx hy hp, htj, nI_add]
  refine fx_iconst (nI 1) dX6_looked_12 (by decide) ?_
  refine fx_isub dX6_looked_13 ?_
  rw [pk_sub (by omega), show j + 1 - 1 = j by omega]
  refine fx_istoren dX6_looked_14 (by decide) ?_
  refine fx_aloadn dX6_looked_15 rfl ?_
  refine fx_iloadn dX6_looked_16 rfl ?_
  refine fx_iconst (nI 2) dX6_looked_17 (by decide) ?_
  refine fx_callVp dX6_looked_18 vX6_step kkX6_88 rfl rfl (by assumption) (p_rf_step2 D V hl j hj) rfl (by decide) (by decide) rfl (Nat.le_of_ble_eq_true rfl) ?_
  refine fx_istore dX6_looked_21 (by decide) ?_
  refine fx_aloadn dX6_looked_23 rfl ?_
  refine fx_iloadn dX6_looked_24 rfl ?_
  refine fx_iconst (nI 3) dX6_looked_25 (by decide) ?_
  refine fx_callVp dX6_looked_26 vX6_step kkX6_88 rfl rfl (by assumption) (p_rf_step3 D V hl j hj) rfl (by decide) (by decide) rfl (Nat.le_of_ble_eq_true rfl) ?_
  refine fx_istore dX6_looked_29 (by decide) ?_
  refine fx_iload dX6_looked_31 rfl ?_
  refine fx_bipush (nI 127) dX6_looked_33 (by decide) ?_
  refine fx_icn_gt 51 dX6_looked_35 (by decide) (by omega) (by omega) (fun c35 => ?_) (fun c35 => ?_)
  · skip
    refine fx_iloadn dX6_looked_51 rfl ?_
    refine fx_iconst (nI 1) dX6_looked_52 (by decide) ?_
    refine fx_iadd dX6_looked_53 ?_
    refine fx_iret dX6_looked_54 rfl ?_
    refine ⟨?_, rfl⟩
    unfold ml_lk
    rw [htj, if_pos (show 128 ≤ ml_o b (nI j) ∨ ml_o b (nI j) = 5 ∨ ml_o b (nI j) = 11 by omega), nI_add]
  · skip
    refine fx_iload dX6_looked_38 rfl ?_
    refine fx_iconst (nI 5) dX6_looked_40 (by decide) ?_
    refine fx_icn_eq 51 dX6_looked_41 (by decide) (by omega) (by omega) (fun c41 => ?_) (fun c41 => ?_)
    · skip
      refine fx_iloadn dX6_looked_51 rfl ?_
      refine fx_iconst (nI 1) dX6_looked_52 (by decide) ?_
      refine fx_iadd dX6_looked_53 ?_
      refine fx_iret dX6_looked_54 rfl ?_
      refine ⟨?_, rfl⟩
      unfold ml_lk
      rw [htj, if_pos (show 128 ≤ ml_o b (nI j) ∨ ml_o b (nI j) = 5 ∨ ml_o b (nI j) = 11 by omega), nI_add]
    · skip
      refine fx_iload dX6_looked_44 rfl ?_
      refine fx_bipush (nI 11) dX6_looked_46 (by decide) ?_
      refine fx_icn_ne 55 dX6_looked_48 (by decide) (by omega) (by omega) (fun c48 => ?_) (fun c48 => ?_)
      · skip
        refine fx_iload dX6_looked_55 rfl ?_
        refine fx_ifn_eq 67 dX6_looked_57 (by decide) (by omega) (fun c57 => ?_) (fun c57 => ?_)
        · skip
          refine fx_iload dX6_looked_67 rfl ?_
          refine fx_iconst (nI 1) dX6_looked_69 (by decide) ?_
          refine fx_iadd dX6_looked_70 ?_
          refine fx_iret dX6_looked_71 rfl ?_
          refine ⟨?_, rfl⟩
          unfold ml_lk
          rw [htj, if_neg (show ¬ (128 ≤ ml_o b (nI j) ∨ ml_o b (nI j) = 5 ∨ ml_o b (nI j) = 11) by omega), if_pos (show ml_o b (nI j) = 0 ∨ ml_o b (nI j) = 6 by omega), nI_add]
        · skip
          refine fx_iload dX6_looked_60 rfl ?_
          refine fx_bipush (nI 6) dX6_looked_62 (by decide) ?_
          refine fx_icn_ne 72 dX6_looked_64 (by decide) (by omega) (by omega) (fun c64 => ?_) (fun c64 => ?_)
          · skip
            refine fx_iload dX6_looked_72 rfl ?_
            refine fx_iconst (nI 1) dX6_looked_74 (by decide) ?_
            refine fx_icn_eq 85 dX6_looked_75 (by decide) (by omega) (by omega) (fun c75 => ?_) (fun c75 => ?_)
            · skip
              refine fx_aloadn dX6_looked_85 rfl ?_
              refine fx_iload dX6_looked_86 rfl ?_
              refine fx_iloadn dX6_looked_88 rfl ?_
              refine fx_callVp dX6_looked_89 vX6_behind kkX6_97 rfl rfl (by assumption) (p_rf_behind E P9 K9 V F3 F5 (ml_r b (nI j)) (y) (by omega) (hy)) rfl (by decide) (by decide) rfl (Nat.le_of_ble_eq_true rfl) ?_
              refine fx_iret dX6_looked_92 rfl ?_
              refine ⟨?_, rfl⟩
              unfold ml_lk
              rw [htj, if_neg (show ¬ (128 ≤ ml_o b (nI j) ∨ ml_o b (nI j) = 5 ∨ ml_o b (nI j) = 11) by omega), if_neg (show ¬ (ml_o b (nI j) = 0 ∨ ml_o b (nI j) = 6) by omega), if_pos (show ml_o b (nI j) = 1 ∨ ml_o b (nI j) = 7 by omega)]
            · skip
              refine fx_iload dX6_looked_78 rfl ?_
              refine fx_bipush (nI 7) dX6_looked_80 (by decide) ?_
              refine fx_icn_ne 93 dX6_looked_82 (by decide) (by omega) (by omega) (fun c82 => ?_) (fun c82 => ?_)
              · skip
                refine fx_aloadn dX6_looked_93 rfl ?_
                refine fx_iloadn dX6_looked_94 rfl ?_
                refine fx_iload dX6_looked_95 rfl ?_
                refine fx_callVp dX6_looked_97 vX6_behind kkX6_97 rfl rfl (by assumption) (p_rf_behind E P9 K9 V F3 F5 (x) (ml_r b (nI j)) (hx) (hr)) rfl (by decide) (by decide) rfl (Nat.le_of_ble_eq_true rfl) ?_
                refine fx_istore dX6_looked_100 (by decide) ?_
                refine fx_iload dX6_looked_102 rfl ?_
                refine fx_iconst (nI 2) dX6_looked_104 (by decide) ?_
                refine fx_icn_eq 113 dX6_looked_105 (by decide) (by omega) (by omega) (fun c105 => ?_) (fun c105 => ?_)
                · skip
                  refine fx_iload dX6_looked_113 rfl ?_
                  refine fx_goto 127 dX6_looked_115 (by decide) ?_
                  refine fx_iret dX6_looked_127 rfl ?_
                  refine ⟨?_, rfl⟩
                  unfold ml_lk
                  rw [htj, if_neg (show ¬ (128 ≤ ml_o b (nI j) ∨ ml_o b (nI j) = 5 ∨ ml_o b (nI j) = 11) by omega), if_neg (show ¬ (ml_o b (nI j) = 0 ∨ ml_o b (nI j) = 6) by omega), if_neg (show ¬ (ml_o b (nI j) = 1 ∨ ml_o b (nI j) = 7) by omega), if_pos (show ml_o b (nI j) = 2 ∨ G x (ml_r b (nI j)) = 0 by omega)]
                · skip
                  refine fx_iload dX6_looked_108 rfl ?_
                  refine fx_ifn_ne 118 dX6_looked_110 (by decide) (by omega) (fun c110 => ?_) (fun c110 => ?_)
                  · skip
                    refine fx_aloadn dX6_looked_118 rfl ?_
                    refine fx_iload dX6_looked_119 rfl ?_
                    refine fx_iconst (nI 1) dX6_looked_121 (by decide) ?_
                    refine fx_isub dX6_looked_122 ?_
                    rw [pk_sub (by omega)]
                    refine fx_iloadn dX6_looked_123 rfl ?_
                    refine fx_callVp dX6_looked_124 vX6_behind kkX6_97 rfl rfl (by assumption) (p_rf_behind E P9 K9 V F3 F5 (G x (ml_r b (nI j)) - 1) (y) (by omega) (hy)) rfl (by decide) (by decide) rfl (Nat.le_of_ble_eq_true rfl) ?_
                    refine fx_iret dX6_looked_127 rfl ?_
                    refine ⟨?_, rfl⟩
                    unfold ml_lk
                    rw [htj, if_neg (show ¬ (128 ≤ ml_o b (nI j) ∨ ml_o b (nI j) = 5 ∨ ml_o b (nI j) = 11) by omega), if_neg (show ¬ (ml_o b (nI j) = 0 ∨ ml_o b (nI j) = 6) by omega), if_neg (show ¬ (ml_o b (nI j) = 1 ∨ ml_o b (nI j) = 7) by omega), if_neg (show ¬ (ml_o b (nI j) = 2 ∨ G x (ml_r b (nI j)) = 0) by omega)]
                  · skip
                    refine fx_iload dX6_looked_113 rfl ?_
                    refine fx_goto 127 dX6_looked_115 (by decide) ?_
                    refine fx_iret dX6_looked_127 rfl ?_
                    refine ⟨?_, rfl⟩
                    unfold ml_lk
                    rw [htj, if_neg (show ¬ (128 ≤ ml_o b (nI j) ∨ ml_o b (nI j) = 5 ∨ ml_o b (nI j) = 11) by omega), if_neg (show ¬ (ml_o b (nI j) = 0 ∨ ml_o b (nI j) = 6) by omega), if_neg (show ¬ (ml_o b (nI j) = 1 ∨ ml_o b (nI j) = 7) by omega), if_pos (show ml_o b (nI j) = 2 ∨ G x (ml_r b (nI j)) = 0 by omega)]
              · skip
                refine fx_aloadn dX6_looked_85 rfl ?_
                refine fx_iload dX6_looked_86 rfl ?_
                refine fx_iloadn dX6_looked_88 rfl ?_
                refine fx_callVp dX6_looked_89 vX6_behind kkX6_97 rfl rfl (by assumption) (p_rf_behind E P9 K9 V F3 F5 (ml_r b (nI j)) (y) (by omega) (hy)) rfl (by decide) (by decide) rfl (Nat.le_of_ble_eq_true rfl) ?_
                refine fx_iret dX6_looked_92 rfl ?_
                refine ⟨?_, rfl⟩
                unfold ml_lk
                rw [htj, if_neg (show ¬ (128 ≤ ml_o b (nI j) ∨ ml_o b (nI j) = 5 ∨ ml_o b (nI j) = 11) by omega), if_neg (show ¬ (ml_o b (nI j) = 0 ∨ ml_o b (nI j) = 6) by omega), if_pos (show ml_o b (nI j) = 1 ∨ ml_o b (nI j) = 7 by omega)]
          · skip
            refine fx_iload dX6_looked_67 rfl ?_
            refine fx_iconst (nI 1) dX6_looked_69 (by decide) ?_
            refine fx_iadd dX6_looked_70 ?_
            refine fx_iret dX6_looked_71 rfl ?_
            refine ⟨?_, rfl⟩
            unfold ml_lk
            rw [htj, if_neg (show ¬ (128 ≤ ml_o b (nI j) ∨ ml_o b (nI j) = 5 ∨ ml_o b (nI j) = 11) by omega), if_pos (show ml_o b (nI j) = 0 ∨ ml_o b (nI j) = 6 by omega), nI_add]
      · skip
        refine fx_iloadn dX6_looked_51 rfl ?_
        refine fx_iconst (nI 1) dX6_looked_52 (by decide) ?_
        refine fx_iadd dX6_looked_53 ?_
        refine fx_iret dX6_looked_54 rfl ?_
        refine ⟨?_, rfl⟩
        unfold ml_lk
        rw [htj, if_pos (show 128 ≤ ml_o b (nI j) ∨ ml_o b (nI j) = 5 ∨ ml_o b (nI j) = 11 by omega), nI_add]
theorem l_rf_pg1 {g : fx_G} {h0 : fx_H} {a pt pp ph lim nw : Nat} {b : Nat → Nat} (V : ml_v b nw) (hl : 4 * nw ≤ lim) (F3 : ml_F3a b) (F5 : ml_f5 b) (N : pt ≠ pp) (HR : ∀ h', kp (rS pt pp ph) h0 h' → rd h' a b lim) (x : Nat) (hx : x ≤ 256) (i : Int32) (ft0 fp0 fh : Nat → Int32) (hhx : fh x = nI 1) (K : Option Value → fx_H → Prop) (J : ∀ (lv : List (Nat × Value)) (h : fx_H) (ft fp : Nat → Int32), fx_le [(0, .ref a), (1, .int (nI x)), (2, .int i)] lv → ra h a pt pp ph ft fp fh → (∀ y, y < 256 → ft (256 * x + y) = 0 ∧ fp (256 * x + y) = 0) → (∀ p, p / 256 ≠ x → ft p = ft0 p ∧ fp p = fp0 p) → kp (rS pt pp ph) h0 h → fx_Y g mX6_programs 8 175 K (fun _ _ => False) 80 lv [] h 0 0) : ∀ (n : Nat) (h : fx_H) (y : Nat) (ft fp : Nat → Int32), y + n = 256 → ra h a pt pp ph ft fp fh → (∀ y', y' < y → ft (256 * x + y') = 0 ∧ fp (256 * x + y') = 0) → (∀ p, p / 256 ≠ x → ft p = ft0 p ∧ fp p = fp0 p) → kp (rS pt pp ph) h0 h → fx_Y g mX6_programs 8 175 K (fun _ _ => False) 32 [(0, .ref a), (1, .int (nI x)), (2, .int i), (3, .int (nI y))] [] h 0 0 := by
  intro n
  induction n using Nat.strongRecOn with
  | ind n ih =>
  intro h y ft fp hn E hz hoth hk
  obtain ⟨F, g1, g8, g9, g10, t1, t2, t3⟩ := id E
  by_cases hn0 : n = 0
  · skip
    refine fx_iloadn dX6_programs_32 rfl ?_
    refine fx_sipush (nI 256) dX6_programs_33 (by decide) ?_
    refine fx_icmp_ge 80 dX6_programs_36 (by decide) (fun c36 => ?_) (fun c36 => absurd (nI_le (by omega) (by omega)) c36)
    exact J _ h ft fp ⟨rfl, rfl, rfl, trivial⟩ E (fun y' hy' => hz y' (by omega)) hoth hk
  · skip
    refine fx_iloadn dX6_programs_32 rfl ?_
    refine fx_sipush (nI 256) dX6_programs_33 (by decide) ?_
    refine fx_icmp_ge 80 dX6_programs_36 (by decide) (fun c36 => absurd c36 (nI_ge (show y < 256 by omega) (by decide))) (fun c36 => ?_)
    refine fx_aloadn dX6_programs_39 rfl ?_
    refine fx_get dX6_programs_40 ffX6_27 (by assumption) (by assumption) ?_
    refine fx_iloadn dX6_programs_43 rfl ?_
    refine fx_zald dX6_programs_44 t3 (vp_in_nI (show x < 257 by omega) (by decide)) ?_
    rw [nI_clamp (by omega)]
    refine fx_if_eq 80 dX6_programs_45 (by decide) (fun c45 => absurd c45 (by rw [hhx]; decide)) (fun c45 => ?_)
    refine fx_aloadn dX6_programs_48 rfl ?_
    refine fx_get dX6_programs_49 ffX6_21 (by assumption) (by assumption) ?_
    refine fx_sipush (nI 256) dX6_programs_52 (by decide) ?_
    refine fx_iloadn dX6_programs_55 rfl ?_
    refine fx_imul dX6_programs_56 ?_
    rw [pk_mul]
    refine fx_iloadn dX6_programs_57 rfl ?_
    refine fx_iadd dX6_programs_58 ?_
    rw [nI_add]
    refine fx_iconst (nI 0) dX6_programs_59 (by decide) ?_
    refine fx_iastV dX6_programs_60 t1 (vp_in_nI (show 256 * x + y < 65792 by omega) (by decide)) (fun h1' e1 o1 => ?_)
    rw [nI_clamp (by omega)] at e1
    have E1 := E.sett N e1 o1
    have k1 := kp.put hk o1 (Or.inl (Or.inl rfl))
    obtain ⟨F, g1, g8, g9, g10, t1, t2, t3⟩ := id E1
    refine fx_aloadn dX6_programs_61 rfl ?_
    refine fx_get dX6_programs_62 ffX6_24 (by assumption) (by assumption) ?_
    refine fx_sipush (nI 256) dX6_programs_65 (by decide) ?_
    refine fx_iloadn dX6_programs_68 rfl ?_
    refine fx_imul dX6_programs_69 ?_
    rw [pk_mul]
    refine fx_iloadn dX6_programs_70 rfl ?_
    refine fx_iadd dX6_programs_71 ?_
    rw [nI_add]
    refine fx_iconst (nI 0) dX6_programs_72 (by decide) ?_
    refine fx_iastV dX6_programs_73 t2 (vp_in_nI (show 256 * x + y < 65792 by omega) (by decide)) (fun h2' e2 o2 => ?_)
    rw [nI_clamp (by omega)] at e2
    have E2 := E1.setp N e2 o2
    have k2 := kp.put k1 o2 (Or.inl (Or.inr (Or.inl rfl)))
    refine fx_iinc (nI 1) dX6_programs_74 rfl (by decide) (by decide) ?_
    refine fx_goto 32 dX6_programs_77 (by decide) ?_
    simp only [nI_add]
    refine fx_to (ih (n - 1) (by omega) h2' (y + 1) _ _ (by omega) E2 (fun y' hy' => ?_) (fun p hp => ?_) k2) ⟨rfl, rfl, rfl, rfl, trivial⟩
    · by_cases q : y' = y
      · rw [q, pk_us, pk_us]
        exact ⟨rfl, rfl⟩
      · rw [pk_un (by omega), pk_un (by omega)]
        exact hz y' (by omega)
    · rw [pk_un (by omega), pk_un (by omega)]
      exact hoth p hp
theorem l_rf_pg2 {g : fx_G} {h0 : fx_H} {a pt pp ph lim nw : Nat} {b : Nat → Nat} (V : ml_v b nw) (hl : 4 * nw ≤ lim) (F3 : ml_F3a b) (F5 : ml_f5 b) (N : pt ≠ pp) (HR : ∀ h', kp (rS pt pp ph) h0 h' → rd h' a b lim) (x : Nat) (hx : x ≤ 256) (ft0 fp fh : Nat → Int32) (K : Option Value → fx_H → Prop) (J : ∀ (lv : List (Nat × Value)) (h : fx_H) (ft : Nat → Int32), fx_le [(0, .ref a), (1, .int (nI x))] lv → ra h a pt pp ph ft fp fh → (∀ y, y < 256 → ft (256 * x + y) = ml_tt b x y + nI 1) → (∀ p, p / 256 ≠ x → ft p = ft0 p) → kp (rS pt pp ph) h0 h → fx_Y g mX6_programs 8 175 K (fun _ _ => False) 151 lv [] h 0 0) : ∀ (n : Nat) (h : fx_H) (ft : Nat → Int32) (i : Int32), (i = -1 ∧ n = 0 ∨ ∃ j, j < ml_rl b 6 ∧ i = nI j ∧ n = ml_rl b 6 - j) → ra h a pt pp ph ft fp fh → (∀ y, y < 256 → (ft (256 * x + y) ≠ 0 ∧ ft (256 * x + y) = ml_tt b x y + nI 1) ∨ (ft (256 * x + y) = 0 ∧ ml_seek b (nI y) (ml_rl b 6) i = ml_tt b x y)) → (∀ p, p / 256 ≠ x → ft p = ft0 p) → kp (rS pt pp ph) h0 h → fx_Y g mX6_programs 8 175 K (fun _ _ => False) 80 [(0, .ref a), (1, .int (nI x)), (2, .int i)] [] h 0 0 := by
  have hNL := V.rl (r := 6) (by decide)
  intro n
  induction n using Nat.strongRecOn with
  | ind n ih =>
  intro h ft i hi E hinv hoth hk
  obtain ⟨F, g1, g8, g9, g10, t1, t2, t3⟩ := id E
  have D := HR h hk
  rcases hi with ⟨rfl, hn⟩ | ⟨j, hj, rfl, hn⟩
  · skip
    refine fx_iloadn dX6_programs_80 rfl ?_
    refine fx_if_lt 151 dX6_programs_81 (by decide) (fun c81 => ?_) (fun c81 => absurd (by decide) c81)
    refine J _ h ft ⟨rfl, rfl, trivial⟩ E (fun y hy => ?_) hoth hk
    rcases hinv y hy with q | ⟨q1, q2⟩
    · exact q.2
    · rw [seek_m1] at q2
      rw [q1, ← q2]
      decide
  · have hnl := ml_n_lt (b := b) (nI j)
    have hsl := ml_s_lt V.1 (nI j)
    have hpL : 256 * x + ml_n b (nI j) < 65792 := by omega
    by_cases hjm : 128 < ml_s b (nI j)
    · skip
      refine fx_iloadn dX6_programs_80 rfl ?_
      refine fx_if_lt 151 dX6_programs_81 (by decide) (fun c81 => absurd c81 (nI_pos (by omega))) (fun c81 => ?_)
      refine fx_aloadn dX6_programs_84 rfl ?_
      refine fx_iloadn dX6_programs_85 rfl ?_
      refine fx_iconst (nI 0) dX6_programs_86 (by decide) ?_
      refine fx_callVp dX6_programs_87 vX6_step kkX6_88 rfl rfl (by assumption) (p_rf_step0 D V hl j hj) rfl (by decide) (by decide) rfl (Nat.le_of_ble_eq_true rfl) ?_
      refine fx_istoren dX6_programs_90 (by decide) ?_
      refine fx_sipush (nI 256) dX6_programs_91 (by decide) ?_
      refine fx_iloadn dX6_programs_94 rfl ?_
      refine fx_imul dX6_programs_95 ?_
      refine fx_aloadn dX6_programs_96 rfl ?_
      refine fx_iloadn dX6_programs_97 rfl ?_
      refine fx_iconst (nI 1) dX6_programs_98 (by decide) ?_
      refine fx_callVp dX6_programs_99 vX6_step kkX6_88 rfl rfl (by assumption) (p_rf_step1 D V hl j hj) rfl (by decide) (by decide) rfl (Nat.le_of_ble_eq_true rfl) ?_
      rw [pk_mul]
      refine fx_iadd dX6_programs_102 ?_
      rw [nI_add]
      refine fx_istore dX6_programs_103 (by decide) ?_
      refine fx_iloadn dX6_programs_105 rfl ?_
      refine fx_sipush (nI 129) dX6_programs_106 (by decide) ?_
      refine fx_icmp_ge 132 dX6_programs_109 (by decide) (fun c109 => ?_) (fun c109 => absurd (nI_le (by omega) (by omega)) c109)
      refine fx_iloadn dX6_programs_132 rfl ?_
      refine fx_bipush (nI 127) dX6_programs_133 (by decide) ?_
      refine fx_icn_le 142 dX6_programs_135 (by decide) (by omega) (by omega) (fun c135 => ?_) (fun c135 => ?_)
      · skip
        refine fx_iloadn dX6_programs_142 rfl ?_
        refine fx_iloadn dX6_programs_143 rfl ?_
        refine fx_iadd dX6_programs_144 ?_
        refine fx_iconst (nI 1) dX6_programs_145 (by decide) ?_
        refine fx_iadd dX6_programs_146 ?_
        refine fx_istoren dX6_programs_147 (by decide) ?_
        refine fx_goto 80 dX6_programs_148 (by decide) ?_
        have hsk : ∀ y, ¬ (¬ 128 < ml_s b (nI j) ∧ nI (ml_n b (nI j)) = nI y) → ml_seek b (nI y) (ml_rl b 6) (nI j) = ml_seek b (nI y) (ml_rl b 6) (ml_nx b (nI j)) := fun y hno => by
          conv => lhs; rw [show ml_rl b 6 = ml_rl b 6 - 1 + 1 by omega]; unfold ml_seek
          rw [if_neg (nI_m1 _ (by omega)), if_neg hno]
          by_cases q : 128 < ml_s b (nI j)
          · rw [show ml_nx b (nI j) = -1 from if_pos (by omega), seek_m1, seek_m1]
          · rcases ok_nx V F5 hj q with z | ⟨k, hk1, hk2, z⟩
            · rw [z, seek_m1, seek_m1]
            · rw [z]
              exact seek_enough V F5 _ _ _ k hk2 (by omega) (by omega)
        have q3 : ml_nx b (nI j) = nI j + nI (ml_s b (nI j)) + nI 1 := if_neg (by omega)
        rcases ok_nx V F5 hj (by omega) with q | ⟨k, hk1, hk2, q⟩
        · exfalso
          rw [q3, nI_add, nI_add] at q
          have h4 := F5 j hj
          unfold ml_stp at h4
          rw [if_neg (by omega)] at h4
          have h5 := h4.2.1
          exact nI_m1 _ (by omega) q
        · rw [← q3, q]
          refine fx_to (ih (ml_rl b 6 - k) (by omega) h ft (nI k) (Or.inr ⟨k, hk2, rfl, rfl⟩) (by assumption) (fun y hy => ?_) hoth hk) ⟨rfl, rfl, rfl, trivial⟩
          rw [← q]
          rcases hinv y hy with q | ⟨q1, q2⟩
          · exact Or.inl q
          · refine Or.inr ⟨q1, ?_⟩
            rw [← q2]
            exact (hsk y (fun z => z.1 hjm)).symm
      · skip
        refine fx_iconst (-1) dX6_programs_138 (by decide) ?_
        refine fx_goto 147 dX6_programs_139 (by decide) ?_
        refine fx_istoren dX6_programs_147 (by decide) ?_
        refine fx_goto 80 dX6_programs_148 (by decide) ?_
        have hsk : ∀ y, ¬ (¬ 128 < ml_s b (nI j) ∧ nI (ml_n b (nI j)) = nI y) → ml_seek b (nI y) (ml_rl b 6) (nI j) = ml_seek b (nI y) (ml_rl b 6) (ml_nx b (nI j)) := fun y hno => by
          conv => lhs; rw [show ml_rl b 6 = ml_rl b 6 - 1 + 1 by omega]; unfold ml_seek
          rw [if_neg (nI_m1 _ (by omega)), if_neg hno]
          by_cases q : 128 < ml_s b (nI j)
          · rw [show ml_nx b (nI j) = -1 from if_pos (by omega), seek_m1, seek_m1]
          · rcases ok_nx V F5 hj q with z | ⟨k, hk1, hk2, z⟩
            · rw [z, seek_m1, seek_m1]
            · rw [z]
              exact seek_enough V F5 _ _ _ k hk2 (by omega) (by omega)
        have q3 : ml_nx b (nI j) = -1 := if_pos (by omega)
        refine fx_to (ih 0 (by omega) h ft (-1) (Or.inl ⟨rfl, rfl⟩) (by assumption) (fun y hy => ?_) hoth hk) ⟨rfl, rfl, rfl, trivial⟩
        rw [← q3]
        rcases hinv y hy with q | ⟨q1, q2⟩
        · exact Or.inl q
        · refine Or.inr ⟨q1, ?_⟩
          rw [← q2]
          exact (hsk y (fun z => z.1 hjm)).symm
    · by_cases h9 : ft (256 * x + ml_n b (nI j)) = 0
      · skip
        refine fx_iloadn dX6_programs_80 rfl ?_
        refine fx_if_lt 151 dX6_programs_81 (by decide) (fun c81 => absurd c81 (nI_pos (by omega))) (fun c81 => ?_)
        refine fx_aloadn dX6_programs_84 rfl ?_
        refine fx_iloadn dX6_programs_85 rfl ?_
        refine fx_iconst (nI 0) dX6_programs_86 (by decide) ?_
        refine fx_callVp dX6_programs_87 vX6_step kkX6_88 rfl rfl (by assumption) (p_rf_step0 D V hl j hj) rfl (by decide) (by decide) rfl (Nat.le_of_ble_eq_true rfl) ?_
        refine fx_istoren dX6_programs_90 (by decide) ?_
        refine fx_sipush (nI 256) dX6_programs_91 (by decide) ?_
        refine fx_iloadn dX6_programs_94 rfl ?_
        refine fx_imul dX6_programs_95 ?_
        refine fx_aloadn dX6_programs_96 rfl ?_
        refine fx_iloadn dX6_programs_97 rfl ?_
        refine fx_iconst (nI 1) dX6_programs_98 (by decide) ?_
        refine fx_callVp dX6_programs_99 vX6_step kkX6_88 rfl rfl (by assumption) (p_rf_step1 D V hl j hj) rfl (by decide) (by decide) rfl (Nat.le_of_ble_eq_true rfl) ?_
        rw [pk_mul]
        refine fx_iadd dX6_programs_102 ?_
        rw [nI_add]
        refine fx_istore dX6_programs_103 (by decide) ?_
        refine fx_iloadn dX6_programs_105 rfl ?_
        refine fx_sipush (nI 129) dX6_programs_106 (by decide) ?_
        refine fx_icmp_ge 132 dX6_programs_109 (by decide) (fun c109 => absurd c109 (nI_ge (show ml_s b (nI j) < 129 by omega) (by decide))) (fun c109 => ?_)
        refine fx_aloadn dX6_programs_112 rfl ?_
        refine fx_get dX6_programs_113 ffX6_21 (by assumption) (by assumption) ?_
        refine fx_iload dX6_programs_116 rfl ?_
        refine fx_iald dX6_programs_118 t1 (vp_in_nI hpL (by decide)) ?_
        rw [nI_clamp (by omega)]
        refine fx_if_ne 132 dX6_programs_119 (by decide) (fun c119 => absurd (h9) c119) (fun c119 => ?_)
        refine fx_aloadn dX6_programs_122 rfl ?_
        refine fx_get dX6_programs_123 ffX6_21 (by assumption) (by assumption) ?_
        refine fx_iload dX6_programs_126 rfl ?_
        refine fx_iloadn dX6_programs_128 rfl ?_
        refine fx_iconst (nI 1) dX6_programs_129 (by decide) ?_
        refine fx_iadd dX6_programs_130 ?_
        rw [nI_add]
        refine fx_iastV dX6_programs_131 t1 (vp_in_nI hpL (by decide)) (fun h1' e1 o1 => ?_)
        rw [nI_clamp (by omega)] at e1
        have E1 := E.sett N e1 o1
        have k1 := kp.put hk o1 (Or.inl (Or.inl rfl))
        refine fx_iloadn dX6_programs_132 rfl ?_
        refine fx_bipush (nI 127) dX6_programs_133 (by decide) ?_
        refine fx_icn_le 142 dX6_programs_135 (by decide) (by omega) (by omega) (fun c135 => ?_) (fun c135 => ?_)
        · skip
          refine fx_iloadn dX6_programs_142 rfl ?_
          refine fx_iloadn dX6_programs_143 rfl ?_
          refine fx_iadd dX6_programs_144 ?_
          refine fx_iconst (nI 1) dX6_programs_145 (by decide) ?_
          refine fx_iadd dX6_programs_146 ?_
          refine fx_istoren dX6_programs_147 (by decide) ?_
          refine fx_goto 80 dX6_programs_148 (by decide) ?_
          have hsk : ∀ y, ¬ (¬ 128 < ml_s b (nI j) ∧ nI (ml_n b (nI j)) = nI y) → ml_seek b (nI y) (ml_rl b 6) (nI j) = ml_seek b (nI y) (ml_rl b 6) (ml_nx b (nI j)) := fun y hno => by
            conv => lhs; rw [show ml_rl b 6 = ml_rl b 6 - 1 + 1 by omega]; unfold ml_seek
            rw [if_neg (nI_m1 _ (by omega)), if_neg hno]
            by_cases q : 128 < ml_s b (nI j)
            · rw [show ml_nx b (nI j) = -1 from if_pos (by omega), seek_m1, seek_m1]
            · rcases ok_nx V F5 hj q with z | ⟨k, hk1, hk2, z⟩
              · rw [z, seek_m1, seek_m1]
              · rw [z]
                exact seek_enough V F5 _ _ _ k hk2 (by omega) (by omega)
          have q3 : ml_nx b (nI j) = nI j + nI (ml_s b (nI j)) + nI 1 := if_neg (by omega)
          rcases ok_nx V F5 hj (by omega) with q | ⟨k, hk1, hk2, q⟩
          · exfalso
            rw [q3, nI_add, nI_add] at q
            have h4 := F5 j hj
            unfold ml_stp at h4
            rw [if_neg (by omega)] at h4
            have h5 := h4.2.1
            exact nI_m1 _ (by omega) q
          · rw [← q3, q]
            refine fx_to (ih (ml_rl b 6 - k) (by omega) h1' _ (nI k) (Or.inr ⟨k, hk2, rfl, rfl⟩) (by assumption) (fun y hy => ?_) (fun p hp9 => by rw [pk_un (fun z => hp9 (by rw [z]; omega))]; exact hoth p hp9) k1) ⟨rfl, rfl, rfl, trivial⟩
            rw [← q]
            by_cases q9 : y = ml_n b (nI j)
            · rw [q9, pk_us]
              refine Or.inl ⟨fun e => absurd ((nI_eq0 (by omega)).mp e) (by omega), ?_⟩
              rcases hinv (ml_n b (nI j)) hnl with q | ⟨q1, q2⟩
              · exact absurd h9 q.1
              · rw [← q2, show ml_rl b 6 = ml_rl b 6 - 1 + 1 by omega]
                unfold ml_seek
                rw [if_neg (nI_m1 _ (by omega)), if_pos ⟨hjm, rfl⟩, nI_add]
            · rw [pk_un (by omega)]
              rcases hinv y hy with q | ⟨q1, q2⟩
              · exact Or.inl q
              · refine Or.inr ⟨q1, ?_⟩
                rw [← q2]
                exact (hsk y (fun z => q9 ((nI_eq (by omega) (by omega)).mp z.2).symm)).symm
        · skip
          refine fx_iconst (-1) dX6_programs_138 (by decide) ?_
          refine fx_goto 147 dX6_programs_139 (by decide) ?_
          refine fx_istoren dX6_programs_147 (by decide) ?_
          refine fx_goto 80 dX6_programs_148 (by decide) ?_
          have hsk : ∀ y, ¬ (¬ 128 < ml_s b (nI j) ∧ nI (ml_n b (nI j)) = nI y) → ml_seek b (nI y) (ml_rl b 6) (nI j) = ml_seek b (nI y) (ml_rl b 6) (ml_nx b (nI j)) := fun y hno => by
            conv => lhs; rw [show ml_rl b 6 = ml_rl b 6 - 1 + 1 by omega]; unfold ml_seek
            rw [if_neg (nI_m1 _ (by omega)), if_neg hno]
            by_cases q : 128 < ml_s b (nI j)
            · rw [show ml_nx b (nI j) = -1 from if_pos (by omega), seek_m1, seek_m1]
            · rcases ok_nx V F5 hj q with z | ⟨k, hk1, hk2, z⟩
              · rw [z, seek_m1, seek_m1]
              · rw [z]
                exact seek_enough V F5 _ _ _ k hk2 (by omega) (by omega)
          have q3 : ml_nx b (nI j) = -1 := if_pos (by omega)
          refine fx_to (ih 0 (by omega) h1' _ (-1) (Or.inl ⟨rfl, rfl⟩) (by assumption) (fun y hy => ?_) (fun p hp9 => by rw [pk_un (fun z => hp9 (by rw [z]; omega))]; exact hoth p hp9) k1) ⟨rfl, rfl, rfl, trivial⟩
          rw [← q3]
          by_cases q9 : y = ml_n b (nI j)
          · rw [q9, pk_us]
            refine Or.inl ⟨fun e => absurd ((nI_eq0 (by omega)).mp e) (by omega), ?_⟩
            rcases hinv (ml_n b (nI j)) hnl with q | ⟨q1, q2⟩
            · exact absurd h9 q.1
            · rw [← q2, show ml_rl b 6 = ml_rl b 6 - 1 + 1 by omega]
              unfold ml_seek
              rw [if_neg (nI_m1 _ (by omega)), if_pos ⟨hjm, rfl⟩, nI_add]
          · rw [pk_un (by omega)]
            rcases hinv y hy with q | ⟨q1, q2⟩
            · exact Or.inl q
            · refine Or.inr ⟨q1, ?_⟩
              rw [← q2]
              exact (hsk y (fun z => q9 ((nI_eq (by omega) (by omega)).mp z.2).symm)).symm
      · skip
        refine fx_iloadn dX6_programs_80 rfl ?_
        refine fx_if_lt 151 dX6_programs_81 (by decide) (fun c81 => absurd c81 (nI_pos (by omega))) (fun c81 => ?_)
        refine fx_aloadn dX6_programs_84 rfl ?_
        refine fx_iloadn dX6_programs_85 rfl ?_
        refine fx_iconst (nI 0) dX6_programs_86 (by decide) ?_
        refine fx_callVp dX6_programs_87 vX6_step kkX6_88 rfl rfl (by assumption) (p_rf_step0 D V hl j hj) rfl (by decide) (by decide) rfl (Nat.le_of_ble_eq_true rfl) ?_
        refine fx_istoren dX6_programs_90 (by decide) ?_
        refine fx_sipush (nI 256) dX6_programs_91 (by decide) ?_
        refine fx_iloadn dX6_programs_94 rfl ?_
        refine fx_imul dX6_programs_95 ?_
        refine fx_aloadn dX6_programs_96 rfl ?_
        refine fx_iloadn dX6_programs_97 rfl ?_
        refine fx_iconst (nI 1) dX6_programs_98 (by decide) ?_
        refine fx_callVp dX6_programs_99 vX6_step kkX6_88 rfl rfl (by assumption) (p_rf_step1 D V hl j hj) rfl (by decide) (by decide) rfl (Nat.le_of_ble_eq_true rfl) ?_
        rw [pk_mul]
        refine fx_iadd dX6_programs_102 ?_
        rw [nI_add]
        refine fx_istore dX6_programs_103 (by decide) ?_
        refine fx_iloadn dX6_programs_105 rfl ?_
        refine fx_sipush (nI 129) dX6_programs_106 (by decide) ?_
        refine fx_icmp_ge 132 dX6_programs_109 (by decide) (fun c109 => absurd c109 (nI_ge (show ml_s b (nI j) < 129 by omega) (by decide))) (fun c109 => ?_)
        refine fx_aloadn dX6_programs_112 rfl ?_
        refine fx_get dX6_programs_113 ffX6_21 (by assumption) (by assumption) ?_
        refine fx_iload dX6_programs_116 rfl ?_
        refine fx_iald dX6_programs_118 t1 (vp_in_nI hpL (by decide)) ?_
        rw [nI_clamp (by omega)]
        refine fx_if_ne 132 dX6_programs_119 (by decide) (fun c119 => ?_) (fun c119 => absurd c119 (h9))
        refine fx_iloadn dX6_programs_132 rfl ?_
        refine fx_bipush (nI 127) dX6_programs_133 (by decide) ?_
        refine fx_icn_le 142 dX6_programs_135 (by decide) (by omega) (by omega) (fun c135 => ?_) (fun c135 => ?_)
        · skip
          refine fx_iloadn dX6_programs_142 rfl ?_
          refine fx_iloadn dX6_programs_143 rfl ?_
          refine fx_iadd dX6_programs_144 ?_
          refine fx_iconst (nI 1) dX6_programs_145 (by decide) ?_
          refine fx_iadd dX6_programs_146 ?_
          refine fx_istoren dX6_programs_147 (by decide) ?_
          refine fx_goto 80 dX6_programs_148 (by decide) ?_
          have hsk : ∀ y, ¬ (¬ 128 < ml_s b (nI j) ∧ nI (ml_n b (nI j)) = nI y) → ml_seek b (nI y) (ml_rl b 6) (nI j) = ml_seek b (nI y) (ml_rl b 6) (ml_nx b (nI j)) := fun y hno => by
            conv => lhs; rw [show ml_rl b 6 = ml_rl b 6 - 1 + 1 by omega]; unfold ml_seek
            rw [if_neg (nI_m1 _ (by omega)), if_neg hno]
            by_cases q : 128 < ml_s b (nI j)
            · rw [show ml_nx b (nI j) = -1 from if_pos (by omega), seek_m1, seek_m1]
            · rcases ok_nx V F5 hj q with z | ⟨k, hk1, hk2, z⟩
              · rw [z, seek_m1, seek_m1]
              · rw [z]
                exact seek_enough V F5 _ _ _ k hk2 (by omega) (by omega)
          have q3 : ml_nx b (nI j) = nI j + nI (ml_s b (nI j)) + nI 1 := if_neg (by omega)
          rcases ok_nx V F5 hj (by omega) with q | ⟨k, hk1, hk2, q⟩
          · exfalso
            rw [q3, nI_add, nI_add] at q
            have h4 := F5 j hj
            unfold ml_stp at h4
            rw [if_neg (by omega)] at h4
            have h5 := h4.2.1
            exact nI_m1 _ (by omega) q
          · rw [← q3, q]
            refine fx_to (ih (ml_rl b 6 - k) (by omega) h ft (nI k) (Or.inr ⟨k, hk2, rfl, rfl⟩) (by assumption) (fun y hy => ?_) hoth hk) ⟨rfl, rfl, rfl, trivial⟩
            rw [← q]
            by_cases q9 : y = ml_n b (nI j)
            · rcases hinv y hy with q | ⟨q1, q2⟩
              · exact Or.inl q
              · rw [q9] at q1
                exact absurd q1 h9
            · rcases hinv y hy with q | ⟨q1, q2⟩
              · exact Or.inl q
              · refine Or.inr ⟨q1, ?_⟩
                rw [← q2]
                exact (hsk y (fun z => q9 ((nI_eq (by omega) (by omega)).mp z.2).symm)).symm
        · skip
          refine fx_iconst (-1) dX6_programs_138 (by decide) ?_
          refine fx_goto 147 dX6_programs_139 (by decide) ?_
          refine fx_istoren dX6_programs_147 (by decide) ?_
          refine fx_goto 80 dX6_programs_148 (by decide) ?_
          have hsk : ∀ y, ¬ (¬ 128 < ml_s b (nI j) ∧ nI (ml_n b (nI j)) = nI y) → ml_seek b (nI y) (ml_rl b 6) (nI j) = ml_seek b (nI y) (ml_rl b 6) (ml_nx b (nI j)) := fun y hno => by
            conv => lhs; rw [show ml_rl b 6 = ml_rl b 6 - 1 + 1 by omega]; unfold ml_seek
            rw [if_neg (nI_m1 _ (by omega)), if_neg hno]
            by_cases q : 128 < ml_s b (nI j)
            · rw [show ml_nx b (nI j) = -1 from if_pos (by omega), seek_m1, seek_m1]
            · rcases ok_nx V F5 hj q with z | ⟨k, hk1, hk2, z⟩
              · rw [z, seek_m1, seek_m1]
              · rw [z]
                exact seek_enough V F5 _ _ _ k hk2 (by omega) (by omega)
          have q3 : ml_nx b (nI j) = -1 := if_pos (by omega)
          refine fx_to (ih 0 (by omega) h ft (-1) (Or.inl ⟨rfl, rfl⟩) (by assumption) (fun y hy => ?_) hoth hk) ⟨rfl, rfl, rfl, trivial⟩
          rw [← q3]
          by_cases q9 : y = ml_n b (nI j)
          · rcases hinv y hy with q | ⟨q1, q2⟩
            · exact Or.inl q
            · rw [q9] at q1
              exact absurd q1 h9
          · rcases hinv y hy with q | ⟨q1, q2⟩
            · exact Or.inl q
            · refine Or.inr ⟨q1, ?_⟩
              rw [← q2]
              exact (hsk y (fun z => q9 ((nI_eq (by omega) (by omega)).mp z.2).symm)).symm
theorem nI_gt9 {x y : Nat} (h : x ≤ y) (hy : y < 2 ^ 31) : ¬ nI y < nI x := nI_nlt h hy
theorem nI_lt9 {x y : Nat} (h : x < y) (hy : y < 2 ^ 31) : nI x < nI y := nI_lt h hy
theorem by_contra9 {p : Prop} (h : ¬ ¬ p) : p := Classical.byContradiction h
theorem l_rf_progs {g : fx_G} {h0 : fx_H} {a pt pp ph lim nw : Nat} {b : Nat → Nat} (V : ml_v b nw) (hl : 4 * nw ≤ lim) (F3 : ml_F3a b) (F5 : ml_f5 b) (N : pt ≠ pp) (HR : ∀ h', kp (rS pt pp ph) h0 h' → rd h' a b lim) : ∀ (n : Nat) (h : fx_H) (x : Nat) (ft fp fh : Nat → Int32), x + n = 257 → ra h a pt pp ph ft fp fh → (∀ x', x' < x → fh x' = bI (ml_ps b x' ≠ -1)) → (∀ x' y', x' < x → y' < 256 → ml_ps b x' ≠ -1 → ft (256 * x' + y') = ml_tt b x' y' + nI 1 ∧ fp (256 * x' + y') = 0) → kp (rS pt pp ph) h0 h → fx_Y g mX6_programs 8 175 (fun r h' => r = none ∧ ∃ ft fp fh, ra h' a pt pp ph ft fp fh ∧ rP b ft fh ∧ (∀ x y, x ≤ 256 → y < 256 → ml_ps b x ≠ -1 → fp (256 * x + y) = 0) ∧ kp (rS pt pp ph) h0 h') (fun _ _ => False) 2 [(0, .ref a), (1, .int (nI x))] [] h 0 0 := by
  have hNL := V.rl (r := 6) (by decide)
  intro n
  induction n using Nat.strongRecOn with
  | ind n ih =>
  intro h x ft fp fh hn E hh hr hk
  obtain ⟨F, g1, g8, g9, g10, t1, t2, t3⟩ := id E
  have D := HR h hk
  by_cases hn0 : n = 0
  · skip
    refine fx_iloadn dX6_programs_2 rfl ?_
    refine fx_sipush (nI 256) dX6_programs_3 (by decide) ?_
    refine fx_icmp_gt 157 dX6_programs_6 (by decide) (fun c6 => ?_) (fun c6 => absurd (nI_lt9 (show 256 < x by omega) (by omega)) c6)
    refine fx_vret dX6_programs_157 rfl ?_
    exact ⟨rfl, ft, fp, fh, E, ⟨fun x' hx' => hh x' (by omega), fun x' y' hx' hy' hp' => (hr x' y' (by omega) hy' hp').1⟩, fun x' y' hx' hy' hp' => (hr x' y' (by omega) hy' hp').2, hk⟩
  have hx : x ≤ 256 := by omega
  by_cases hp : ml_ps b x = -1
  · skip
    refine fx_iloadn dX6_programs_2 rfl ?_
    refine fx_sipush (nI 256) dX6_programs_3 (by decide) ?_
    refine fx_icmp_gt 157 dX6_programs_6 (by decide) (fun c6 => absurd c6 (nI_gt9 (show x ≤ 256 from hx) (by decide))) (fun c6 => ?_)
    refine fx_aloadn dX6_programs_9 rfl ?_
    refine fx_iloadn dX6_programs_10 rfl ?_
    refine fx_callVp dX6_programs_11 vX6_program kkX6_94 rfl rfl (by assumption) (p_rf_program D V hl F3 F5 x hx) rfl (by decide) (by decide) rfl (Nat.le_of_ble_eq_true rfl) ?_
    rw [hp]
    refine fx_istoren dX6_programs_14 (by decide) ?_
    refine fx_aloadn dX6_programs_15 rfl ?_
    refine fx_get dX6_programs_16 ffX6_27 (by assumption) (by assumption) ?_
    refine fx_iloadn dX6_programs_19 rfl ?_
    refine fx_iloadn dX6_programs_20 rfl ?_
    refine fx_if_lt 28 dX6_programs_21 (by decide) (fun c21 => ?_) (fun c21 => absurd (by decide) c21)
    refine fx_iconst (nI 0) dX6_programs_28 (by decide) ?_
    refine fx_zastV dX6_programs_29 t3 (vp_in_nI (show x < 257 by omega) (by decide)) (fun h1' e1 o1 => ?_)
    rw [nI_clamp (by omega)] at e1
    have E1 := E.seth e1 o1
    have k1 := kp.put hk o1 (Or.inl (Or.inr (Or.inr rfl)))
    obtain ⟨F, g1, g8, g9, g10, t1, t2, t3⟩ := id E1
    refine fx_iconst (nI 0) dX6_programs_30 (by decide) ?_
    refine fx_istoren dX6_programs_31 (by decide) ?_
    refine fx_iloadn dX6_programs_32 rfl ?_
    refine fx_sipush (nI 256) dX6_programs_33 (by decide) ?_
    refine fx_icmp_ge 80 dX6_programs_36 (by decide) (fun c36 => absurd c36 (by decide)) (fun c36 => ?_)
    refine fx_aloadn dX6_programs_39 rfl ?_
    refine fx_get dX6_programs_40 ffX6_27 (by assumption) (by assumption) ?_
    refine fx_iloadn dX6_programs_43 rfl ?_
    refine fx_zald dX6_programs_44 t3 (vp_in_nI (show x < 257 by omega) (by decide)) ?_
    rw [nI_clamp (by omega), pk_us]
    refine fx_if_eq 80 dX6_programs_45 (by decide) (fun c45 => ?_) (fun c45 => absurd (by decide) c45)
    refine fx_iloadn dX6_programs_80 rfl ?_
    refine fx_if_lt 151 dX6_programs_81 (by decide) (fun c81 => ?_) (fun c81 => absurd (by decide) c81)
    refine fx_iinc (nI 1) dX6_programs_151 rfl (by decide) (by decide) ?_
    refine fx_goto 2 dX6_programs_154 (by decide) ?_
    simp only [nI_add]
    refine fx_to (ih (n - 1) (by omega) h1' (x + 1) _ _ _ (by omega) E1 (fun x' hx' => ?_) (fun x' y' hx' hy' hp' => ?_) k1) ⟨rfl, rfl, trivial⟩
    · by_cases q : x' = x
      · rw [q, pk_us, bI_f (fun z => z hp)]
        rfl
      · rw [pk_un q]
        exact hh x' (by omega)
    · exact hr x' y' (by_contra9 (fun z => hp' (by rw [show x' = x by omega]; exact hp))) hy' hp'
  · rcases ok_ps V F3 F5 hx with z | ⟨j, hj, hpj⟩
    · exact absurd z hp
    refine fx_iloadn dX6_programs_2 rfl ?_
    refine fx_sipush (nI 256) dX6_programs_3 (by decide) ?_
    refine fx_icmp_gt 157 dX6_programs_6 (by decide) (fun c6 => absurd c6 (nI_gt9 (show x ≤ 256 from hx) (by decide))) (fun c6 => ?_)
    refine fx_aloadn dX6_programs_9 rfl ?_
    refine fx_iloadn dX6_programs_10 rfl ?_
    refine fx_callVp dX6_programs_11 vX6_program kkX6_94 rfl rfl (by assumption) (p_rf_program D V hl F3 F5 x hx) rfl (by decide) (by decide) rfl (Nat.le_of_ble_eq_true rfl) ?_
    rw [hpj]
    refine fx_istoren dX6_programs_14 (by decide) ?_
    refine fx_aloadn dX6_programs_15 rfl ?_
    refine fx_get dX6_programs_16 ffX6_27 (by assumption) (by assumption) ?_
    refine fx_iloadn dX6_programs_19 rfl ?_
    refine fx_iloadn dX6_programs_20 rfl ?_
    refine fx_if_lt 28 dX6_programs_21 (by decide) (fun c21 => absurd c21 (nI_pos (by omega))) (fun c21 => ?_)
    refine fx_iconst (nI 1) dX6_programs_24 (by decide) ?_
    refine fx_goto 29 dX6_programs_25 (by decide) ?_
    refine fx_zastV dX6_programs_29 t3 (vp_in_nI (show x < 257 by omega) (by decide)) (fun h1' e1 o1 => ?_)
    rw [nI_clamp (by omega)] at e1
    have E1 := E.seth e1 o1
    have k1 := kp.put hk o1 (Or.inl (Or.inr (Or.inr rfl)))
    obtain ⟨F, g1, g8, g9, g10, t1, t2, t3⟩ := id E1
    refine fx_iconst (nI 0) dX6_programs_30 (by decide) ?_
    refine fx_istoren dX6_programs_31 (by decide) ?_
    refine fx_to (l_rf_pg1 V hl F3 F5 N HR x hx (nI j) ft fp _ (by rw [pk_us]; rfl) _ (fun lv h2 ft2 fp2 hlv E2 hz2 ho2 hk2 => ?_) 256 h1' 0 ft fp (by omega) E1 (fun y' hy' => absurd hy' (Nat.not_lt_zero _)) (fun p _ => ⟨rfl, rfl⟩) k1) ⟨rfl, rfl, rfl, rfl, trivial⟩
    refine fx_to (l_rf_pg2 V hl F3 F5 N HR x hx ft2 fp2 _ _ (fun lv3 h3 ft3 hlv3 E3 hd3 ho3 hk3 => ?_) (ml_rl b 6 - j) h2 ft2 (nI j) (Or.inr ⟨j, hj, rfl, rfl⟩) E2 (fun y hy => Or.inr ⟨(hz2 y hy).1, by rw [← hpj]; rfl⟩) (fun p _ => rfl) hk2) hlv
    refine fx_sub _ hlv3 ?_
    refine fx_iinc (nI 1) dX6_programs_151 rfl (by decide) (by decide) ?_
    refine fx_goto 2 dX6_programs_154 (by decide) ?_
    simp only [nI_add]
    refine fx_to (ih (n - 1) (by omega) h3 (x + 1) _ _ _ (by omega) E3 (fun x' hx' => ?_) (fun x' y' hx' hy' hp' => ?_) hk3) ⟨rfl, rfl, trivial⟩
    · by_cases q : x' = x
      · rw [q, pk_us, bI_t hp]
        rfl
      · rw [pk_un q]
        exact hh x' (by omega)
    · by_cases q : x' = x
      · rw [q]
        refine ⟨hd3 y' hy', ?_⟩
        exact (hz2 y' hy').2
      · rw [ho3 _ (by omega), (ho2 _ (by omega)).1, (ho2 _ (by omega)).2]
        exact hr x' y' (by omega) hy' hp'
theorem c_rf_programs {g : fx_G} {h : fx_H} {a pt pp ph lim nw : Nat} {b : Nat → Nat} (V : ml_v b nw) (hl : 4 * nw ≤ lim) (F3 : ml_F3a b) (F5 : ml_f5 b) (N : pt ≠ pp) (HR : ∀ h', kp (rS pt pp ph) h h' → rd h' a b lim) {ft fp fh : Nat → Int32} (E : ra h a pt pp ph ft fp fh) : fx_Met g mX6_programs 8 175 [.ref a] h 0 0 (fun r h' => r = none ∧ ∃ ft fp fh, ra h' a pt pp ph ft fp fh ∧ rP b ft fh ∧ (∀ x y, x ≤ 256 → y < 256 → ml_ps b x ≠ -1 → fp (256 * x + y) = 0) ∧ kp (rS pt pp ph) h h') := by
  refine fx_Met.of rfl (Nat.le_of_ble_eq_true rfl) ?_
  refine fx_iconst (nI 0) dX6_programs_0 (by decide) ?_
  refine fx_istoren dX6_programs_1 (by decide) ?_
  refine fx_to (l_rf_progs V hl F3 F5 N (fun h' q => HR h' q) 257 h 0 ft fp fh (by omega) E (fun x' hx' => absurd hx' (Nat.not_lt_zero _)) (fun x' y' hx' => absurd hx' (Nat.not_lt_zero _)) kp.rf) ⟨rfl, rfl, trivial⟩
