/-! FontDesk$Endings: allEnd() -/
def eS (e pr pg pt pa pl : Nat) : Nat → Prop := fun x => x = e ∨ x = pr ∨ x = pg ∨ x = pt ∨ x = pa ∨ x = pl
theorem dfs.nna {b : Nat → Nat} {fa fl : Nat → Int32} (D : dfs b fa fl 0) : ∀ p, p < 256 * ml_rk b 257 → fa p ≠ -1 := fun p hp q => by
  obtain ⟨x, y, hx, hy, h1, rfl⟩ := mP_ex hp
  obtain ⟨-, tx, ty, -, -, -, d4, -⟩ := D
  obtain ⟨j, hj, -⟩ := d4 x y hx hy h1 q
  exact absurd hj (Nat.not_lt_zero _)
theorem sm_0 (w : Int32 → Nat) (f : Nat → Int32) (n : Nat) (h : ∀ p, p < n → f p = 0) (hw : w 0 = 0) : sm w f n = 0 := by
  induction n with
  | zero => rfl
  | succ n ih =>
    show sm w f n + w (f n) = 0
    rw [ih (fun p hp => h p (by omega)), h n (by omega), hw]
theorem dfs.zero {b : Nat → Nat} {fa fl : Nat → Int32} (h : ∀ p, p < 256 * ml_rk b 257 → fa p = 0) : dfs b fa fl 0 :=
  ⟨fun x y hx hy hp => Or.inl (h _ (mP_lt hx hp hy)), fun _ => 0, fun _ => 0, fun j hj => absurd hj (Nat.not_lt_zero _), fun i j _ hj => absurd hj (Nat.not_lt_zero _), fun j hj => absurd hj (Nat.not_lt_zero _), fun x y hx hy hp q => by rw [h _ (mP_lt hx hp hy)] at q; exact absurd q (by decide), sm_0 _ _ _ h (by decide)⟩
theorem tt1 {b : Nat → Nat} {nw : Nat} (V : ml_v b nw) (F3 : ml_F3a b) (F5 : ml_f5 b) {x y : Nat} (hx : x ≤ 256) : ml_tt b x y + nI 1 = 0 ↔ ml_tt b x y = -1 := by
  constructor
  · intro q
    rcases tt_ok1 V F3 F5 (y := y) hx with z | ⟨j, hj, z⟩
    · exact z
    · rw [z, nI_add] at q
      have := V.rl (r := 6) (by decide)
      exact absurd ((nI_eq0 (by omega)).mp q) (by omega)
  · intro q
    rw [q]
    decide

theorem l_en_all2 {g : fx_G} {h0 : fx_H} {e pr pg pt pa pl pt' pa' pl' L a nw cu su : Nat} {fr fg : Nat → Int32} {b : Nat → Nat} {S : Nat → Prop} {z9 : Int32} (V : ml_v b nw) (F5 : ml_f5 b) (F3 : ml_F3a b) (hL : L ≤ 65792) (N : eap pr pg pt' pa' pl') (B : enb b fr fg) (hfr : ∀ x, x = pt' ∨ x = pa' ∨ x = pl' → x = pt ∨ x = pa ∨ x = pl ∨ h0 x = none) (HF : ∀ h', kp (eS e pr pg pt pa pl) h0 h' → fo S h' a b nw z9) (ft : Nat → Int32) (T : ent b ft) : ∀ (n : Nat) (h : fx_H) (p : Nat) (fa fl : Nat → Int32), p + n = 256 * ml_rk b 257 → en h e pr pg pt' pa' pl' fr fg ft fa fl (ml_rk b 257) (enl L (ml_rk b 257)) → dfs b fa fl 0 → (∀ x y, x ≤ 256 → y < 256 → ml_ps b x ≠ -1 → ml_P b x y < p → ml_tt b x y ≠ -1 → fa (ml_P b x y) ≠ 0) → kp (eS e pr pg pt pa pl) h0 h → fx_Y g mX1_allEnd 5 123 (fun r h' => r = some (.int (bI (ml_f7 b))) ∧ ∃ pt' pa' pl' fr' fg' ft' fa' fl', en h' e pr pg pt' pa' pl' fr' fg' ft' fa' fl' (ml_rk b 257) (enl L (ml_rk b 257)) ∧ eap pr pg pt' pa' pl' ∧ (∀ x, x = pt' ∨ x = pa' ∨ x = pl' → x = pt ∨ x = pa ∨ x = pl ∨ h0 x = none) ∧ kp (eS e pr pg pt pa pl) h0 h') (fun _ _ => False) 40 [(0, .ref e), (1, .ref a), (2, .int (nI p))] [] h cu su := by
  have hrk := rk_le b 257
  have hge := enl_ge (L := L) hrk
  have hle := enl_le (rows := ml_rk b 257) hL
  have hfr' : ∀ x, x = pt' ∨ x = pa' ∨ x = pl' → eS e pr pg pt pa pl x ∨ h0 x = none := fun x hx => by
    rcases hfr x hx with q | q | q | q
    · exact Or.inl (Or.inr (Or.inr (Or.inr (Or.inl q))))
    · exact Or.inl (Or.inr (Or.inr (Or.inr (Or.inr (Or.inl q)))))
    · exact Or.inl (Or.inr (Or.inr (Or.inr (Or.inr (Or.inr q)))))
    · exact Or.inr q
  intro n
  induction n using Nat.strongRecOn with
  | ind n ih =>
  intro h p fa fl hn E Df hkn hk
  obtain ⟨h1, h2, h3, h4, h5, h6⟩ := id E
  by_cases hp9 : n = 0
  · skip
    refine fx_iloadn dX1_allEnd_40 rfl ?_
    refine fx_sipush (nI 256) dX1_allEnd_41 (by decide) ?_
    refine fx_aloadn dX1_allEnd_44 rfl ?_
    refine fx_get dX1_allEnd_45 ffX1_20 (by assumption) rfl ?_
    refine fx_imul dX1_allEnd_48 ?_
    rw [pk_mul]
    refine fx_icmp_ge 95 dX1_allEnd_49 (by decide) (fun c49 => ?_) (fun c49 => absurd (nI_le (by omega) (by omega)) c49)
    refine fx_iconst (nI 1) dX1_allEnd_95 (by decide) ?_
    refine fx_zret dX1_allEnd_96 rfl rfl ?_
    refine ⟨?_, pt', pa', pl', fr, fg, ft, fa, fl, E, N, hfr, hk⟩
    refine congrArg (fun x => some (Value.int x)) (bI_t (fun x y hx hy => ?_)).symm
    by_cases q : ml_tt b x y = -1
    · exact ⟨0, by rw [an_t q]; omega⟩
    · have hpx : ml_ps b x ≠ -1 := fun z => q (tt_nops z)
      have q2 := hkn x y hx hy hpx (by have := mP_lt hx hpx hy; omega) q
      rcases Df.1 x y hx hy hpx with z | z | ⟨z, -, -, n, hn⟩
      · exact absurd z q2
      · exact absurd z (Df.nna _ (mP_lt hx hpx hy))
      · exact ⟨n, by omega⟩
  · obtain ⟨x, y, hx, hy, hpx, rfl⟩ := mP_ex (show p < 256 * ml_rk b 257 by omega)
    have hplt := mP_lt hx hpx hy
    by_cases htt0 : ml_tt b x y = -1
    · skip
      refine fx_iloadn dX1_allEnd_40 rfl ?_
      refine fx_sipush (nI 256) dX1_allEnd_41 (by decide) ?_
      refine fx_aloadn dX1_allEnd_44 rfl ?_
      refine fx_get dX1_allEnd_45 ffX1_20 (by assumption) rfl ?_
      refine fx_imul dX1_allEnd_48 ?_
      rw [pk_mul]
      refine fx_icmp_ge 95 dX1_allEnd_49 (by decide) (fun c49 => absurd c49 (nI_ge hplt (by omega))) (fun c49 => ?_)
      refine fx_iloadn dX1_allEnd_52 rfl ?_
      refine fx_aloadn dX1_allEnd_53 rfl ?_
      refine fx_get dX1_allEnd_54 ffX1_24 (by assumption) rfl ?_
      refine fx_alenI dX1_allEnd_57 (by assumption) (by decide) ?_
      refine fx_icmp_ge 95 dX1_allEnd_58 (by decide) (fun c58 => absurd c58 (nI_ge (show ml_P b x y < enl L (ml_rk b 257) by omega) (by omega))) (fun c58 => ?_)
      refine fx_aloadn dX1_allEnd_61 rfl ?_
      refine fx_get dX1_allEnd_62 ffX1_24 (by assumption) rfl ?_
      refine fx_iloadn dX1_allEnd_65 rfl ?_
      refine fx_iald dX1_allEnd_66 h4 (vp_in_nI (show ml_P b x y < enl L (ml_rk b 257) by omega) (by omega)) ?_
      rw [nI_clamp (by omega), T x y hx hy hpx]
      refine fx_if_eq 89 dX1_allEnd_67 (by decide) (fun c67 => ?_) (fun c67 => absurd ((tt1 V F3 F5 hx).mpr htt0) c67)
      refine fx_iinc (nI 1) dX1_allEnd_89 rfl (by decide) (by decide) ?_
      refine fx_goto 40 dX1_allEnd_92 (by decide) ?_
      simp only [nI_add]
      refine fx_to (ih (n - 1) (by omega) h (ml_P b x y + 1) _ _ (by omega) E Df (fun x' y' hx' hy' hp' hlt htt => ?_) hk) ⟨rfl, rfl, rfl, trivial⟩
      by_cases q : ml_P b x' y' = ml_P b x y
      · obtain ⟨rfl, rfl⟩ := mP_inj hp' hpx hy' hy q
        exact absurd htt0 htt
      · exact hkn x' y' hx' hy' hp' (by omega) htt
    · by_cases hst : fa (ml_P b x y) = 0
      · skip
        refine fx_iloadn dX1_allEnd_40 rfl ?_
        refine fx_sipush (nI 256) dX1_allEnd_41 (by decide) ?_
        refine fx_aloadn dX1_allEnd_44 rfl ?_
        refine fx_get dX1_allEnd_45 ffX1_20 (by assumption) rfl ?_
        refine fx_imul dX1_allEnd_48 ?_
        rw [pk_mul]
        refine fx_icmp_ge 95 dX1_allEnd_49 (by decide) (fun c49 => absurd c49 (nI_ge hplt (by omega))) (fun c49 => ?_)
        refine fx_iloadn dX1_allEnd_52 rfl ?_
        refine fx_aloadn dX1_allEnd_53 rfl ?_
        refine fx_get dX1_allEnd_54 ffX1_24 (by assumption) rfl ?_
        refine fx_alenI dX1_allEnd_57 (by assumption) (by decide) ?_
        refine fx_icmp_ge 95 dX1_allEnd_58 (by decide) (fun c58 => absurd c58 (nI_ge (show ml_P b x y < enl L (ml_rk b 257) by omega) (by omega))) (fun c58 => ?_)
        refine fx_aloadn dX1_allEnd_61 rfl ?_
        refine fx_get dX1_allEnd_62 ffX1_24 (by assumption) rfl ?_
        refine fx_iloadn dX1_allEnd_65 rfl ?_
        refine fx_iald dX1_allEnd_66 h4 (vp_in_nI (show ml_P b x y < enl L (ml_rk b 257) by omega) (by omega)) ?_
        rw [nI_clamp (by omega), T x y hx hy hpx]
        refine fx_if_eq 89 dX1_allEnd_67 (by decide) (fun c67 => absurd c67 (fun q => htt0 ((tt1 V F3 F5 hx).mp q))) (fun c67 => ?_)
        refine fx_aloadn dX1_allEnd_70 rfl ?_
        refine fx_iloadn dX1_allEnd_71 rfl ?_
        refine fx_callVp dX1_allEnd_72 vX1_stateOf kkX1_44 rfl rfl (by assumption) (p_en_stateOf E hle _ (by omega)) rfl (by decide) (by decide) rfl (Nat.le_of_ble_eq_true rfl) ?_
        refine fx_if_ne 89 dX1_allEnd_75 (by decide) (fun c75 => absurd (hst) c75) (fun c75 => ?_)
        refine fx_aloadn dX1_allEnd_78 rfl ?_
        refine fx_aloadn dX1_allEnd_79 rfl ?_
        refine fx_iloadn dX1_allEnd_80 rfl ?_
        refine fx_callV dX1_allEnd_81 vX1_ends kkX1_48 rfl rfl h1 (c_en_ends E B hle hge N T V F5 F3 (fun h'' q => HF h'' (hk.tr q (fun z hz hn => (hfr' z (Or.inr hz)).elim id (fun q => absurd q hn)))) Df Df.nna x y hx hy hpx (by assumption)) rfl (by decide) (by decide) (Nat.zero_le _) (Nat.zero_le _) rfl (Nat.le_of_ble_eq_true rfl) (fun r h2 hk2 => ?_)
        obtain ⟨fa2, fl2, E2, hk3, hk4⟩ := hk2
        have hk5 := hk.tr hk3 (fun z hz hn => (hfr' z (Or.inr hz)).elim id (fun q => absurd q hn))
        rcases hk4 with ⟨rfl, Df2, hold, hnew⟩ | ⟨rfl, hnf⟩
        · skip
          refine fx_if_ne 89 dX1_allEnd_84 (by decide) (fun c84 => ?_) (fun c84 => absurd c84 (by decide))
          refine fx_iinc (nI 1) dX1_allEnd_89 rfl (by decide) (by decide) ?_
          refine fx_goto 40 dX1_allEnd_92 (by decide) ?_
          simp only [nI_add]
          refine fx_to (ih (n - 1) (by omega) h2 (ml_P b x y + 1) _ _ (by omega) E2 Df2 (fun x' y' hx' hy' hp' hlt htt => ?_) hk5) ⟨rfl, rfl, rfl, trivial⟩
          by_cases q : ml_P b x' y' = ml_P b x y
          · obtain ⟨rfl, rfl⟩ := mP_inj hp' hpx hy' hy q
            exact hnew
          · rw [hold _ (hkn x' y' hx' hy' hp' (by omega) htt)]
            exact hkn x' y' hx' hy' hp' (by omega) htt
        · skip
          refine fx_if_ne 89 dX1_allEnd_84 (by decide) (fun c84 => absurd (rfl) c84) (fun c84 => ?_)
          refine fx_iconst (nI 0) dX1_allEnd_87 (by decide) ?_
          refine fx_zret dX1_allEnd_88 rfl rfl ?_
          exact ⟨by rw [bI_f hnf], pt', pa', pl', fr, fg, ft, fa2, fl2, E2, N, hfr, hk5⟩
      · skip
        refine fx_iloadn dX1_allEnd_40 rfl ?_
        refine fx_sipush (nI 256) dX1_allEnd_41 (by decide) ?_
        refine fx_aloadn dX1_allEnd_44 rfl ?_
        refine fx_get dX1_allEnd_45 ffX1_20 (by assumption) rfl ?_
        refine fx_imul dX1_allEnd_48 ?_
        rw [pk_mul]
        refine fx_icmp_ge 95 dX1_allEnd_49 (by decide) (fun c49 => absurd c49 (nI_ge hplt (by omega))) (fun c49 => ?_)
        refine fx_iloadn dX1_allEnd_52 rfl ?_
        refine fx_aloadn dX1_allEnd_53 rfl ?_
        refine fx_get dX1_allEnd_54 ffX1_24 (by assumption) rfl ?_
        refine fx_alenI dX1_allEnd_57 (by assumption) (by decide) ?_
        refine fx_icmp_ge 95 dX1_allEnd_58 (by decide) (fun c58 => absurd c58 (nI_ge (show ml_P b x y < enl L (ml_rk b 257) by omega) (by omega))) (fun c58 => ?_)
        refine fx_aloadn dX1_allEnd_61 rfl ?_
        refine fx_get dX1_allEnd_62 ffX1_24 (by assumption) rfl ?_
        refine fx_iloadn dX1_allEnd_65 rfl ?_
        refine fx_iald dX1_allEnd_66 h4 (vp_in_nI (show ml_P b x y < enl L (ml_rk b 257) by omega) (by omega)) ?_
        rw [nI_clamp (by omega), T x y hx hy hpx]
        refine fx_if_eq 89 dX1_allEnd_67 (by decide) (fun c67 => absurd c67 (fun q => htt0 ((tt1 V F3 F5 hx).mp q))) (fun c67 => ?_)
        refine fx_aloadn dX1_allEnd_70 rfl ?_
        refine fx_iloadn dX1_allEnd_71 rfl ?_
        refine fx_callVp dX1_allEnd_72 vX1_stateOf kkX1_44 rfl rfl (by assumption) (p_en_stateOf E hle _ (by omega)) rfl (by decide) (by decide) rfl (Nat.le_of_ble_eq_true rfl) ?_
        refine fx_if_ne 89 dX1_allEnd_75 (by decide) (fun c75 => ?_) (fun c75 => absurd c75 (hst))
        refine fx_iinc (nI 1) dX1_allEnd_89 rfl (by decide) (by decide) ?_
        refine fx_goto 40 dX1_allEnd_92 (by decide) ?_
        simp only [nI_add]
        refine fx_to (ih (n - 1) (by omega) h (ml_P b x y + 1) _ _ (by omega) E Df (fun x' y' hx' hy' hp' hlt htt => ?_) hk) ⟨rfl, rfl, rfl, trivial⟩
        by_cases q : ml_P b x' y' = ml_P b x y
        · obtain ⟨rfl, rfl⟩ := mP_inj hp' hpx hy' hy q
          exact hst
        · exact hkn x' y' hx' hy' hp' (by omega) htt
theorem l_en_all1 {g : fx_G} {h0 : fx_H} {e pr pg pt pa pl pt' pa' pl' L a nw cu su : Nat} {fr fg : Nat → Int32} {b : Nat → Nat} {S : Nat → Prop} {z9 : Int32} (V : ml_v b nw) (F5 : ml_f5 b) (F3 : ml_F3a b) (hL : L ≤ 65792) (N : eap pr pg pt' pa' pl') (B : enb b fr fg) (hfr : ∀ x, x = pt' ∨ x = pa' ∨ x = pl' → x = pt ∨ x = pa ∨ x = pl ∨ h0 x = none) (HF : ∀ h', kp (eS e pr pg pt pa pl) h0 h' → fo S h' a b nw z9) (fa fl : Nat → Int32) (hfa : ∀ p, p < 256 * ml_rk b 257 → fa p = 0) : ∀ (n : Nat) (h : fx_H) (i : Nat) (ft : Nat → Int32), i + n = ml_rk b 257 → en h e pr pg pt' pa' pl' fr fg ft fa fl (ml_rk b 257) (enl L (ml_rk b 257)) → (∀ x y, x ≤ 256 → y < 256 → ml_ps b x ≠ -1 → ml_rk b x < i → ft (ml_P b x y) = ml_tt b x y + nI 1) → (∀ x y, x ≤ 256 → y < 256 → ml_ps b x ≠ -1 → i ≤ ml_rk b x → ft (ml_P b x y) = 0) → kp (eS e pr pg pt pa pl) h0 h → fx_Y g mX1_allEnd 5 123 (fun r h' => r = some (.int (bI (ml_f7 b))) ∧ ∃ pt' pa' pl' fr' fg' ft' fa' fl', en h' e pr pg pt' pa' pl' fr' fg' ft' fa' fl' (ml_rk b 257) (enl L (ml_rk b 257)) ∧ eap pr pg pt' pa' pl' ∧ (∀ x, x = pt' ∨ x = pa' ∨ x = pl' → x = pt ∨ x = pa ∨ x = pl ∨ h0 x = none) ∧ kp (eS e pr pg pt pa pl) h0 h') (fun _ _ => False) 11 [(0, .ref e), (1, .ref a), (2, .int (nI i))] [] h cu su := by
  have hrk := rk_le b 257
  have hge := enl_ge (L := L) hrk
  have hle := enl_le (rows := ml_rk b 257) hL
  have hfr' : ∀ x, x = pt' ∨ x = pa' ∨ x = pl' → eS e pr pg pt pa pl x ∨ h0 x = none := fun x hx => by
    rcases hfr x hx with q | q | q | q
    · exact Or.inl (Or.inr (Or.inr (Or.inr (Or.inl q))))
    · exact Or.inl (Or.inr (Or.inr (Or.inr (Or.inr (Or.inl q)))))
    · exact Or.inl (Or.inr (Or.inr (Or.inr (Or.inr (Or.inr q)))))
    · exact Or.inr q
  intro n
  induction n using Nat.strongRecOn with
  | ind n ih =>
  intro h i ft hn E hd hz hk
  obtain ⟨h1, h2, h3, h4, h5, h6⟩ := id E
  by_cases hp9 : n = 0
  · skip
    refine fx_iloadn dX1_allEnd_11 rfl ?_
    refine fx_aloadn dX1_allEnd_12 rfl ?_
    refine fx_get dX1_allEnd_13 ffX1_20 (by assumption) rfl ?_
    refine fx_icmp_ge 38 dX1_allEnd_16 (by decide) (fun c16 => ?_) (fun c16 => absurd (nI_le (by omega) (by omega)) c16)
    refine fx_iconst (nI 0) dX1_allEnd_38 (by decide) ?_
    refine fx_istoren dX1_allEnd_39 (by decide) ?_
    exact fx_to (l_en_all2 V F5 F3 hL N B hfr HF ft (fun x y hx hy hp => hd x y hx hy hp (by have := rk_lt (b := b) (show x < 257 by omega) hp; omega)) (256 * ml_rk b 257) h 0 fa fl (by omega) E (dfs.zero hfa) (fun x y hx hy hp hlt => by omega) hk) ⟨rfl, rfl, rfl, trivial⟩
  · obtain ⟨x, hx, hpx, rfl⟩ := rk_ex (b := b) 257 i (by omega)
    refine fx_iloadn dX1_allEnd_11 rfl ?_
    refine fx_aloadn dX1_allEnd_12 rfl ?_
    refine fx_get dX1_allEnd_13 ffX1_20 (by assumption) rfl ?_
    refine fx_icmp_ge 38 dX1_allEnd_16 (by decide) (fun c16 => absurd c16 (nI_ge (show ml_rk b x < ml_rk b 257 by omega) (by omega))) (fun c16 => ?_)
    refine fx_iloadn dX1_allEnd_19 rfl ?_
    refine fx_sipush (nI 257) dX1_allEnd_20 (by decide) ?_
    refine fx_icmp_ge 38 dX1_allEnd_23 (by decide) (fun c23 => absurd c23 (nI_ge (show ml_rk b x < 257 by omega) (by decide))) (fun c23 => ?_)
    refine fx_aloadn dX1_allEnd_26 rfl ?_
    refine fx_aloadn dX1_allEnd_27 rfl ?_
    refine fx_iloadn dX1_allEnd_28 rfl ?_
    refine fx_callV dX1_allEnd_29 vX1_noteSteps kkX1_40 rfl rfl h1 (c_en_note E B V F5 F3 N hle hge x (by omega) hpx (fun y hy => hz x y (by omega) hy hpx (by omega)) (fun h'' q => HF h'' (hk.tr q (fun z hz hn => (hfr' z (Or.inl hz)).elim id (fun q => absurd q hn))))) rfl (by decide) (by decide) (Nat.zero_le _) (Nat.zero_le _) rfl (Nat.le_of_ble_eq_true rfl) (fun r h2 hk2 => ?_)
    obtain ⟨rfl, ft2, E2, hnt, hno, hk3⟩ := hk2
    refine fx_iinc (nI 1) dX1_allEnd_32 rfl (by decide) (by decide) ?_
    refine fx_goto 11 dX1_allEnd_35 (by decide) ?_
    simp only [nI_add]
    refine fx_to (ih (n - 1) (by omega) h2 (ml_rk b x + 1) ft2 (by omega) E2 (fun x' y' hx' hy' hp' hlt => ?_) (fun x' y' hx' hy' hp' hge' => ?_) (hk.tr hk3 (fun z hz hn => (hfr' z (Or.inl hz)).elim id (fun q => absurd q hn)))) ⟨rfl, rfl, rfl, trivial⟩
    · by_cases q : ml_rk b x' = ml_rk b x
      · obtain rfl := rk_inj hp' hpx q
        exact hnt y' hy'
      · rw [hno _ (by unfold ml_P; omega)]
        exact hd x' y' hx' hy' hp' (by omega)
    · rw [hno _ (by unfold ml_P; omega)]
      exact hz x' y' hx' hy' hp' (by omega)
theorem c_en_allEnd {g : fx_G} {h : fx_H} {e pr pg pt pa pl rows L a nw : Nat} {fr fg ft fa fl : Nat → Int32} {b : Nat → Nat} {S : Nat → Prop} {z9 : Int32} (E : en h e pr pg pt pa pl fr fg ft fa fl rows L) (N : eap pr pg pt pa pl) (hL : L ≤ 65792) (H : fo S h a b nw z9) (V : ml_v b nw) (F5 : ml_f5 b) (F3 : ml_F3a b) (hS : ∀ x, S x → h x ≠ none ∧ ¬ eS e pr pg pt pa pl x) : fx_Met g mX1_allEnd 5 123 [.ref e, .ref a] h 3 (ens L (ml_rk b 257)) (fun r h' => r = some (.int (bI (ml_f7 b))) ∧ ∃ pt' pa' pl' fr' fg' ft' fa' fl', en h' e pr pg pt' pa' pl' fr' fg' ft' fa' fl' (ml_rk b 257) (enl L (ml_rk b 257)) ∧ eap pr pg pt' pa' pl' ∧ (∀ x, x = pt' ∨ x = pa' ∨ x = pl' → x = pt ∨ x = pa ∨ x = pl ∨ h x = none) ∧ kp (eS e pr pg pt pa pl) h h') := by
  refine fx_Met.of rfl (Nat.le_of_ble_eq_true rfl) ?_
  refine fx_aloadn dX1_allEnd_0 rfl ?_
  refine fx_aloadn dX1_allEnd_1 rfl ?_
  refine fx_callV dX1_allEnd_2 vX1_numberPrograms kkX1_33 rfl rfl E.1 (c_en_number E V N (fun h'' q => H.dom q (fun x hx => ⟨(hS x hx).1, fun z => (hS x hx).2 (by rcases z with z | z | z <;> simp [eS, z])⟩))) rfl (by decide) (by decide) (Nat.zero_le _) (Nat.zero_le _) rfl (Nat.le_of_ble_eq_true rfl) (fun r h2 hk2 => ?_)
  obtain ⟨rfl, fr2, fg2, E2, B2, hk3⟩ := hk2
  refine fx_aloadn dX1_allEnd_5 rfl ?_
  refine fx_callV dX1_allEnd_6 vX1_clearTables kkX1_37 rfl rfl E2.1 (c_en_clear E2 (rk_le b 257) hL N) rfl (by decide) (by decide) (Nat.le_refl _) (Nat.le_refl _) rfl (Nat.le_of_ble_eq_true rfl) (fun r h3 hk4 => ?_)
  obtain ⟨rfl, pt2, pa2, pl2, ft2, fa2, fl2, E3, N3, hz3, hfr3, hk5⟩ := hk4
  refine fx_iconst (nI 0) dX1_allEnd_9 (by decide) ?_
  refine fx_istoren dX1_allEnd_10 (by decide) ?_
  refine fx_to (l_en_all1 (h0 := h) (pt := pt) (pa := pa) (pl := pl) V F5 F3 hL N3 B2 (fun x hx => ?_) (fun h'' q => H.dom q hS) fa2 fl2 (fun p hp => (hz3 p hp).2) (ml_rk b 257) h3 0 ft2 (by omega) E3 (fun x y hx hy hp hlt => by omega) (fun x y hx hy hp _ => (hz3 _ (mP_lt hx hp hy)).1) ?_) ⟨rfl, rfl, rfl, trivial⟩
  · rcases hfr3 x hx with q | q | q | q
    · exact Or.inl q
    · exact Or.inr (Or.inl q)
    · exact Or.inr (Or.inr (Or.inl q))
    · by_cases z : h x = none
      · exact Or.inr (Or.inr (Or.inr z))
      · by_cases z2 : x = e ∨ x = pr ∨ x = pg
        · exfalso
          rcases z2 with z2 | z2 | z2
          · rw [z2, E2.1] at q; cases q
          · rw [z2, E2.2.1] at q; cases q
          · rw [z2, E2.2.2.1] at q; cases q
        · rw [hk3 x z z2] at q
          exact absurd q z
  · have k1 : kp (eS e pr pg pt pa pl) h h2 := hk3.sub (fun x _ z => by rcases z with z | z | z <;> simp [eS, z])
    exact k1.tr hk5 (fun x z _ => by rcases z with z | z | z | z <;> simp [eS, z])
theorem c_en_init {g : fx_G} {h : fx_H} {e : Nat} {v0 v1 v2 v3 v4 v5 : Value} (ha : h e = some (.inr (1, [v0, v1, v2, v3, v4, v5]))) : fx_Met g mX1_init 1 30 [.ref e] h 5 514 (fun r h' => r = none ∧ ∃ pr pg pt pa pl fr fg ft fa fl, en h' e pr pg pt pa pl fr fg ft fa fl 0 0 ∧ eap pr pg pt pa pl ∧ (h pr = none ∧ h pg = none ∧ h pt = none ∧ h pa = none ∧ h pl = none) ∧ kp (fun x => x = e) h h') := by
  refine fx_Met.of rfl (Nat.le_of_ble_eq_true rfl) ?_
  refine fx_aloadn dX1_init_0 rfl ?_
  refine fx_objInit dX1_init_1 ooX1 oo_i oo_c (by decide) (by decide) (Nat.le_of_ble_eq_true rfl) ?_
  refine fx_aloadn dX1_init_4 rfl ?_
  refine fx_sipush (nI 257) dX1_init_5 (by decide) ?_
  refine fx_newIV 0 257 (by decide) rfl dX1_init_8 ac_int (by decide) (by decide) (by decide) (by omega) (by omega) (fun pr g1 hq0 e1 o1 => ?_)
  have ea1 := (o1 e (ne_new ha hq0)).trans ha
  have np0 : h pr = none := hq0
  refine fx_putFV dX1_init_10 ffX1_13 rfl rfl ea1 rfl rfl (Nat.le_of_ble_eq_true rfl) (fun g2 e2 o2 => ?_)
  have n0 : pr ≠ e := Ne.symm (ne_oa ea1 e1)
  have f_pr2 := (o2 pr n0).trans e1
  have k2 : kp (fun x => x = e) h g2 := kp.put (kp.put (kp.rf (S := fun x => x = e)) o1 (Or.inr np0)) o2 (Or.inl rfl)
  refine fx_aloadn dX1_init_13 rfl ?_
  refine fx_sipush (nI 257) dX1_init_14 (by decide) ?_
  refine fx_newIV 0 257 (by decide) rfl dX1_init_17 ac_int (by decide) (by decide) (by decide) (by omega) (by omega) (fun pg g3 hq1 e3 o3 => ?_)
  have ea3 := (o3 e (ne_new e2 hq1)).trans e2
  have f_pr3 := (o3 pr (ne_new f_pr2 hq1)).trans f_pr2
  have np1 : h pg = none := fresh_of k2 hq1 (fun z => by subst z; rw [e2] at hq1; cases hq1)
  refine fx_putFV dX1_init_19 ffX1_17 rfl rfl ea3 rfl rfl (Nat.le_of_ble_eq_true rfl) (fun g4 e4 o4 => ?_)
  have n1 : pg ≠ e := Ne.symm (ne_oa ea3 e3)
  have f_pg4 := (o4 pg n1).trans e3
  have f_pr4 := (o4 pr n0).trans f_pr3
  have k4 : kp (fun x => x = e) h g4 := kp.put (kp.put (k2) o3 (Or.inr np1)) o4 (Or.inl rfl)
  refine fx_aloadn dX1_init_22 rfl ?_
  refine fx_iconst (nI 0) dX1_init_23 (by decide) ?_
  refine fx_putV dX1_init_24 ffX1_20 e4 rfl rfl (Nat.le_of_ble_eq_true rfl) (fun g4b e4b o4b => ?_)
  have f_pr4b := (o4b pr n0).trans f_pr4
  have f_pg4b := (o4b pg n1).trans f_pg4
  have k4b : kp (fun x => x = e) h g4b := kp.put k4 o4b (Or.inl rfl)
  refine fx_aloadn dX1_init_27 rfl ?_
  refine fx_iconst (nI 0) dX1_init_28 (by decide) ?_
  refine fx_newIV 0 0 (by decide) rfl dX1_init_29 ac_int (by decide) (by decide) (by decide) (by omega) (by omega) (fun pt g5 hq2 e5 o5 => ?_)
  have ea5 := (o5 e (ne_new e4b hq2)).trans e4b
  have f_pr5 := (o5 pr (ne_new f_pr4b hq2)).trans f_pr4b
  have f_pg5 := (o5 pg (ne_new f_pg4b hq2)).trans f_pg4b
  have np2 : h pt = none := fresh_of k4b hq2 (fun z => by subst z; rw [e4b] at hq2; cases hq2)
  refine fx_putV dX1_init_31 ffX1_24 ea5 rfl rfl (Nat.le_of_ble_eq_true rfl) (fun g6 e6 o6 => ?_)
  have n2 : pt ≠ e := Ne.symm (ne_oa ea5 e5)
  have f_pt6 := (o6 pt n2).trans e5
  have f_pr6 := (o6 pr n0).trans f_pr5
  have f_pg6 := (o6 pg n1).trans f_pg5
  have k6 : kp (fun x => x = e) h g6 := kp.put (kp.put (k4b) o5 (Or.inr np2)) o6 (Or.inl rfl)
  refine fx_aloadn dX1_init_34 rfl ?_
  refine fx_iconst (nI 0) dX1_init_35 (by decide) ?_
  refine fx_newIV 0 0 (by decide) rfl dX1_init_36 ac_int (by decide) (by decide) (by decide) (by omega) (by omega) (fun pa g7 hq3 e7 o7 => ?_)
  have ea7 := (o7 e (ne_new e6 hq3)).trans e6
  have f_pr7 := (o7 pr (ne_new f_pr6 hq3)).trans f_pr6
  have f_pg7 := (o7 pg (ne_new f_pg6 hq3)).trans f_pg6
  have f_pt7 := (o7 pt (ne_new f_pt6 hq3)).trans f_pt6
  have np3 : h pa = none := fresh_of k6 hq3 (fun z => by subst z; rw [e6] at hq3; cases hq3)
  refine fx_putV dX1_init_38 ffX1_27 ea7 rfl rfl (Nat.le_of_ble_eq_true rfl) (fun g8 e8 o8 => ?_)
  have n3 : pa ≠ e := Ne.symm (ne_oa ea7 e7)
  have f_pa8 := (o8 pa n3).trans e7
  have f_pr8 := (o8 pr n0).trans f_pr7
  have f_pg8 := (o8 pg n1).trans f_pg7
  have f_pt8 := (o8 pt n2).trans f_pt7
  have k8 : kp (fun x => x = e) h g8 := kp.put (kp.put (k6) o7 (Or.inr np3)) o8 (Or.inl rfl)
  refine fx_aloadn dX1_init_41 rfl ?_
  refine fx_iconst (nI 0) dX1_init_42 (by decide) ?_
  refine fx_newIV 0 0 (by decide) rfl dX1_init_43 ac_int (by decide) (by decide) (by decide) (by omega) (by omega) (fun pl g9 hq4 e9 o9 => ?_)
  have ea9 := (o9 e (ne_new e8 hq4)).trans e8
  have f_pr9 := (o9 pr (ne_new f_pr8 hq4)).trans f_pr8
  have f_pg9 := (o9 pg (ne_new f_pg8 hq4)).trans f_pg8
  have f_pt9 := (o9 pt (ne_new f_pt8 hq4)).trans f_pt8
  have f_pa9 := (o9 pa (ne_new f_pa8 hq4)).trans f_pa8
  have np4 : h pl = none := fresh_of k8 hq4 (fun z => by subst z; rw [e8] at hq4; cases hq4)
  refine fx_putV dX1_init_45 ffX1_30 ea9 rfl rfl (Nat.le_of_ble_eq_true rfl) (fun g10 e10 o10 => ?_)
  have n4 : pl ≠ e := Ne.symm (ne_oa ea9 e9)
  have f_pl10 := (o10 pl n4).trans e9
  have f_pr10 := (o10 pr n0).trans f_pr9
  have f_pg10 := (o10 pg n1).trans f_pg9
  have f_pt10 := (o10 pt n2).trans f_pt9
  have f_pa10 := (o10 pa n3).trans f_pa9
  have k10 : kp (fun x => x = e) h g10 := kp.put (kp.put (k8) o9 (Or.inr np4)) o10 (Or.inl rfl)
  refine fx_vret dX1_init_48 rfl ?_
  exact ⟨rfl, pr, pg, pt, pa, pl, _, _, _, _, _, ⟨e10, f_pr10, f_pg10, f_pt10, f_pa10, f_pl10⟩, ⟨⟨ne_new f_pr2 hq1, ne_new f_pr4b hq2, ne_new f_pr6 hq3, ne_new f_pr8 hq4⟩, ⟨ne_new f_pg4b hq2, ne_new f_pg6 hq3, ne_new f_pg8 hq4⟩, ⟨ne_new f_pt6 hq3, ne_new f_pt8 hq4⟩, ne_new f_pa8 hq4⟩, ⟨np0, np1, np2, np3, np4⟩, k10⟩
