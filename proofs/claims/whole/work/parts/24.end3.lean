/-! FontDesk$Endings: its tables, allEnd() -/
theorem fo.dom {S : Nat → Prop} {h h' : fx_H} {a nw : Nat} {b : Nat → Nat} {z : Int32} (H : fo S h a b nw z) {R : Nat → Prop} (k : kp R h h') (hS : ∀ x, S x → h x ≠ none ∧ ¬ R x) : fo S h' a b nw z := H.kept (fun q hq => k q (hS q hq).1 (hS q hq).2)

theorem l_en_number {g : fx_G} {h0 : fx_H} {e pr pg pt pa pl L a nw : Nat} {ft fa fl : Nat → Int32} {b : Nat → Nat} {S : Nat → Prop} {z9 : Int32} (V : ml_v b nw) (N : eap pr pg pt pa pl) (HF : ∀ h', kp (fun x => x = e ∨ x = pr ∨ x = pg) h0 h' → fo S h' a b nw z9) : ∀ (n : Nat) (h : fx_H) (x : Nat) (fr fg : Nat → Int32), x + n = 257 → en h e pr pg pt pa pl fr fg ft fa fl (ml_rk b x) L → (∀ j, j < x → fr j = if ml_ps b j = -1 then -1 else nI (ml_rk b j)) → (∀ j, j < x → ml_ps b j ≠ -1 → fg (ml_rk b j) = nI j) → kp (fun x => x = e ∨ x = pr ∨ x = pg) h0 h → fx_Y g mX1_numberPrograms 4 88 (fun r h' => r = none ∧ ∃ fr' fg', en h' e pr pg pt pa pl fr' fg' ft fa fl (ml_rk b 257) L ∧ enb b fr' fg' ∧ kp (fun x => x = e ∨ x = pr ∨ x = pg) h0 h') (fun _ _ => False) 7 [(0, .ref e), (1, .ref a), (2, .int (nI x))] [] h 0 0 := by
  intro n
  induction n using Nat.strongRecOn with
  | ind n ih =>
  intro h x fr fg hn E hr hg hk
  obtain ⟨h1, h2, h3, h4, h5, h6⟩ := id E
  have hrk := rk_le b x
  by_cases hx : n = 0
  · skip
    refine fx_iloadn dX1_numberPrograms_7 rfl ?_
    refine fx_sipush (nI 257) dX1_numberPrograms_8 (by decide) ?_
    refine fx_icmp_ge 76 dX1_numberPrograms_11 (by decide) (fun c11 => ?_) (fun c11 => absurd (by rw [show x = 257 by omega]; decide) c11)
    refine fx_vret dX1_numberPrograms_76 rfl ?_
    rw [show x = 257 by omega] at E
    exact ⟨rfl, fr, fg, E, ⟨fun j hj => hr j (by omega), fun j hj hpj => hg j (by omega) hpj⟩, hk⟩
  · by_cases hp : ml_ps b x = -1
    · skip
      refine fx_iloadn dX1_numberPrograms_7 rfl ?_
      refine fx_sipush (nI 257) dX1_numberPrograms_8 (by decide) ?_
      refine fx_icmp_ge 76 dX1_numberPrograms_11 (by decide) (fun c11 => absurd c11 (nI_ge (show x < 257 by omega) (by decide))) (fun c11 => ?_)
      refine fx_aloadn dX1_numberPrograms_14 rfl ?_
      refine fx_get dX1_numberPrograms_15 ffX1_13 (by assumption) rfl ?_
      refine fx_iloadn dX1_numberPrograms_18 rfl ?_
      refine fx_iconst (-1) dX1_numberPrograms_19 (by decide) ?_
      refine fx_iastV dX1_numberPrograms_20 h2 (vp_in_nI (show x < 257 by omega) (by decide)) (fun h1' e1 o1 => ?_)
      rw [nI_clamp (by omega)] at e1
      have E1 := E.setr N e1 o1
      have k1 := kp.put hk o1 (Or.inl (Or.inr (Or.inl rfl)))
      have HF1 := HF h1' k1
      obtain ⟨hff, hf1⟩ := HF1.at
      refine fx_aloadn dX1_numberPrograms_21 rfl ?_
      refine fx_iloadn dX1_numberPrograms_22 rfl ?_
      refine fx_callVp dX1_numberPrograms_23 vX3_programStart kkX1_52 rfl rfl (by assumption) (p_fo_programStart HF1 V x (by omega)) rfl (by decide) (by decide) rfl (Nat.le_of_ble_eq_true rfl) ?_
      refine fx_iconst (-1) dX1_numberPrograms_26 (by decide) ?_
      refine fx_icmp_eq 70 dX1_numberPrograms_27 (by decide) (fun c27 => ?_) (fun c27 => absurd (hp) c27)
      refine fx_iinc (nI 1) dX1_numberPrograms_70 rfl (by decide) (by decide) ?_
      refine fx_goto 7 dX1_numberPrograms_73 (by decide) ?_
      have erk : ml_rk b (x + 1) = ml_rk b x := by
        show ml_rk b x + (if ml_ps b x = -1 then 0 else 1) = _
        rw [if_pos hp]
        rfl
      simp only [nI_add]
      refine fx_to (ih (n - 1) (by omega) h1' (x + 1) _ _ (by omega) (by rw [erk]; exact E1) (fun j hj => ?_) (fun j hj hpj => ?_) k1) ⟨rfl, rfl, rfl, trivial⟩
      · by_cases q : j = x
        · subst q
          rw [pk_us, if_pos hp]
        · rw [pk_un q]
          exact hr j (by omega)
      · by_cases q : j = x
        · rw [q] at hpj
          exact absurd hp hpj
        · exact hg j (by omega) hpj
    · skip
      refine fx_iloadn dX1_numberPrograms_7 rfl ?_
      refine fx_sipush (nI 257) dX1_numberPrograms_8 (by decide) ?_
      refine fx_icmp_ge 76 dX1_numberPrograms_11 (by decide) (fun c11 => absurd c11 (nI_ge (show x < 257 by omega) (by decide))) (fun c11 => ?_)
      refine fx_aloadn dX1_numberPrograms_14 rfl ?_
      refine fx_get dX1_numberPrograms_15 ffX1_13 (by assumption) rfl ?_
      refine fx_iloadn dX1_numberPrograms_18 rfl ?_
      refine fx_iconst (-1) dX1_numberPrograms_19 (by decide) ?_
      refine fx_iastV dX1_numberPrograms_20 h2 (vp_in_nI (show x < 257 by omega) (by decide)) (fun h1' e1 o1 => ?_)
      rw [nI_clamp (by omega)] at e1
      have E1 := E.setr N e1 o1
      have k1 := kp.put hk o1 (Or.inl (Or.inr (Or.inl rfl)))
      have HF1 := HF h1' k1
      obtain ⟨hff, hf1⟩ := HF1.at
      obtain ⟨g1, g2, g3, g4, g5, g6⟩ := id E1
      refine fx_aloadn dX1_numberPrograms_21 rfl ?_
      refine fx_iloadn dX1_numberPrograms_22 rfl ?_
      refine fx_callVp dX1_numberPrograms_23 vX3_programStart kkX1_52 rfl rfl (by assumption) (p_fo_programStart HF1 V x (by omega)) rfl (by decide) (by decide) rfl (Nat.le_of_ble_eq_true rfl) ?_
      refine fx_iconst (-1) dX1_numberPrograms_26 (by decide) ?_
      refine fx_icmp_eq 70 dX1_numberPrograms_27 (by decide) (fun c27 => absurd c27 (hp)) (fun c27 => ?_)
      refine fx_aloadn dX1_numberPrograms_30 rfl ?_
      refine fx_get dX1_numberPrograms_31 ffX1_20 (by assumption) rfl ?_
      refine fx_sipush (nI 257) dX1_numberPrograms_34 (by decide) ?_
      refine fx_icmp_ge 70 dX1_numberPrograms_37 (by decide) (fun c37 => absurd c37 (nI_ge (show ml_rk b x < 257 by omega) (by decide))) (fun c37 => ?_)
      refine fx_aloadn dX1_numberPrograms_40 rfl ?_
      refine fx_get dX1_numberPrograms_41 ffX1_13 (by assumption) rfl ?_
      refine fx_iloadn dX1_numberPrograms_44 rfl ?_
      refine fx_aloadn dX1_numberPrograms_45 rfl ?_
      refine fx_get dX1_numberPrograms_46 ffX1_20 (by assumption) rfl ?_
      refine fx_iastV dX1_numberPrograms_49 g2 (vp_in_nI (show x < 257 by omega) (by decide)) (fun h2' e2 o2 => ?_)
      rw [nI_clamp (by omega)] at e2
      have E2 := E1.setr N e2 o2
      obtain ⟨i1, i2, i3, i4, i5, i6⟩ := id E2
      refine fx_aloadn dX1_numberPrograms_50 rfl ?_
      refine fx_get dX1_numberPrograms_51 ffX1_17 (by assumption) rfl ?_
      refine fx_aloadn dX1_numberPrograms_54 rfl ?_
      refine fx_get dX1_numberPrograms_55 ffX1_20 (by assumption) rfl ?_
      refine fx_iloadn dX1_numberPrograms_58 rfl ?_
      refine fx_iastV dX1_numberPrograms_59 i3 (vp_in_nI (show ml_rk b x < 257 by omega) (by decide)) (fun h3' e3 o3 => ?_)
      rw [nI_clamp (by omega)] at e3
      have E3 := E2.setg N e3 o3
      obtain ⟨j1, j2, j3, j4, j5, j6⟩ := id E3
      refine fx_aloadn dX1_numberPrograms_60 rfl ?_
      refine fx_dup dX1_numberPrograms_61 rfl ?_
      refine fx_get dX1_numberPrograms_62 ffX1_20 (by assumption) rfl ?_
      refine fx_iconst (nI 1) dX1_numberPrograms_65 (by decide) ?_
      refine fx_iadd dX1_numberPrograms_66 ?_
      refine fx_putV dX1_numberPrograms_67 ffX1_20 (by assumption) rfl rfl (Nat.le_of_ble_eq_true rfl) (fun h4' e4 o4 => ?_)
      rw [nI_add] at e4
      refine fx_iinc (nI 1) dX1_numberPrograms_70 rfl (by decide) (by decide) ?_
      refine fx_goto 7 dX1_numberPrograms_73 (by decide) ?_
      have erk : ml_rk b (x + 1) = ml_rk b x + 1 := by
        show ml_rk b x + (if ml_ps b x = -1 then 0 else 1) = _
        rw [if_neg hp]
      simp only [nI_add]
      refine fx_to (ih (n - 1) (by omega) h4' (x + 1) _ _ (by omega) (by rw [erk]; exact E3.seto e4 o4) (fun j hj => ?_) (fun j hj hpj => ?_) (kp.put (kp.put (kp.put k1 o2 (Or.inl (Or.inr (Or.inl rfl)))) o3 (Or.inl (Or.inr (Or.inr rfl)))) o4 (Or.inl (Or.inl rfl)))) ⟨rfl, rfl, rfl, trivial⟩
      · by_cases q : j = x
        · subst q
          rw [pk_us, if_neg hp]
        · rw [pk_un q, pk_un q]
          exact hr j (by omega)
      · by_cases q : j = x
        · rw [q, pk_us]
        · rw [pk_un (fun q2 => q (rk_inj hpj hp q2))]
          exact hg j (by omega) hpj
theorem c_en_number {g : fx_G} {h : fx_H} {e pr pg pt pa pl rows L a nw : Nat} {fr fg ft fa fl : Nat → Int32} {b : Nat → Nat} {S : Nat → Prop} {z9 : Int32} (E : en h e pr pg pt pa pl fr fg ft fa fl rows L) (V : ml_v b nw) (N : eap pr pg pt pa pl) (HF : ∀ h', kp (fun x => x = e ∨ x = pr ∨ x = pg) h h' → fo S h' a b nw z9) : fx_Met g mX1_numberPrograms 4 88 [.ref e, .ref a] h 0 0 (fun r h' => r = none ∧ ∃ fr' fg', en h' e pr pg pt pa pl fr' fg' ft fa fl (ml_rk b 257) L ∧ enb b fr' fg' ∧ kp (fun x => x = e ∨ x = pr ∨ x = pg) h h') := by
  have h1 := E.1
  refine fx_Met.of rfl (Nat.le_of_ble_eq_true rfl) ?_
  refine fx_aloadn dX1_numberPrograms_0 rfl ?_
  refine fx_iconst (nI 0) dX1_numberPrograms_1 (by decide) ?_
  refine fx_putV dX1_numberPrograms_2 ffX1_20 (by assumption) rfl rfl (Nat.le_of_ble_eq_true rfl) (fun h1' e1 o1 => ?_)
  refine fx_iconst (nI 0) dX1_numberPrograms_5 (by decide) ?_
  refine fx_istoren dX1_numberPrograms_6 (by decide) ?_
  exact fx_to (l_en_number (h0 := h) V N HF 257 h1' 0 fr fg rfl (E.seto e1 o1) (fun j hj => by omega) (fun j hj => by omega) (kp.put kp.rf o1 (Or.inl (Or.inl rfl)))) ⟨rfl, rfl, rfl, trivial⟩
/-- how long the tables are behind clearTables(), what is made for it -/
def enl (L rows : Nat) : Nat := if L < 256 * rows then (if (if 256 * rows < 2 * L then 2 * L else 256 * rows) < 65792 then (if 256 * rows < 2 * L then 2 * L else 256 * rows) else 65792) else L
def ens (L rows : Nat) : Nat := if L < 256 * rows then 3 * enl L rows else 0
theorem enl_ge {L rows : Nat} (h : rows ≤ 257) : 256 * rows ≤ enl L rows := by
  unfold enl
  repeat' split
  all_goals omega
theorem enl_le {L rows : Nat} (h : L ≤ 65792) : enl L rows ≤ 65792 := by
  unfold enl
  repeat' split
  all_goals omega

theorem l_en_clear {g : fx_G} {h0 : fx_H} {e pr pg pt pa pl rows L : Nat} {fr fg : Nat → Int32} (hr : rows ≤ 257) (hL : L ≤ 65792) {pt' pa' pl' cu su : Nat} {fl : Nat → Int32} (N : eap pr pg pt' pa' pl') (hfr : ∀ x, x = pt' ∨ x = pa' ∨ x = pl' → x = pt ∨ x = pa ∨ x = pl ∨ h0 x = none) : ∀ (n : Nat) (h : fx_H) (k : Nat) (ft fa : Nat → Int32), k + n = 256 * rows → en h e pr pg pt' pa' pl' fr fg ft fa fl rows (enl L rows) → (∀ p, p < k → ft p = 0 ∧ fa p = 0) → kp (fun x => x = e ∨ x = pt ∨ x = pa ∨ x = pl) h0 h → fx_Y g mX1_clearTables 1 21 (fun r h' => r = none ∧ ∃ pt' pa' pl' ft' fa' fl', en h' e pr pg pt' pa' pl' fr fg ft' fa' fl' rows (enl L rows) ∧ eap pr pg pt' pa' pl' ∧ (∀ p, p < 256 * rows → ft' p = 0 ∧ fa' p = 0) ∧ (∀ x, x = pt' ∨ x = pa' ∨ x = pl' → x = pt ∨ x = pa ∨ x = pl ∨ h0 x = none) ∧ kp (fun x => x = e ∨ x = pt ∨ x = pa ∨ x = pl) h0 h') (fun _ _ => False) 58 [(0, .ref e), (1, .int (nI (256 * rows))), (2, .int (nI k))] [] h cu su := by
  have hge := enl_ge (L := L) hr
  have hle := enl_le (rows := rows) hL
  have hfr' : ∀ x, x = pt' ∨ x = pa' ∨ x = pl' → (x = e ∨ x = pt ∨ x = pa ∨ x = pl) ∨ h0 x = none := fun x hx => by
    rcases hfr x hx with q | q | q | q
    · exact Or.inl (Or.inr (Or.inl q))
    · exact Or.inl (Or.inr (Or.inr (Or.inl q)))
    · exact Or.inl (Or.inr (Or.inr (Or.inr q)))
    · exact Or.inr q
  intro n
  induction n using Nat.strongRecOn with
  | ind n ih =>
  intro h k ft fa hn E hz hk
  obtain ⟨h1, h2, h3, h4, h5, h6⟩ := id E
  by_cases hk9 : k < 256 * rows
  · skip
    refine fx_iloadn dX1_clearTables_58 rfl ?_
    refine fx_iloadn dX1_clearTables_59 rfl ?_
    refine fx_icmp_ge 101 dX1_clearTables_60 (by decide) (fun c60 => absurd c60 (nI_ge hk9 (by omega))) (fun c60 => ?_)
    refine fx_iloadn dX1_clearTables_63 rfl ?_
    refine fx_aloadn dX1_clearTables_64 rfl ?_
    refine fx_get dX1_clearTables_65 ffX1_24 (by assumption) rfl ?_
    refine fx_alenI dX1_clearTables_68 (by assumption) (by decide) ?_
    refine fx_icmp_ge 101 dX1_clearTables_69 (by decide) (fun c69 => absurd c69 (nI_ge (show k < enl L rows by omega) (by omega))) (fun c69 => ?_)
    refine fx_iloadn dX1_clearTables_72 rfl ?_
    refine fx_aloadn dX1_clearTables_73 rfl ?_
    refine fx_get dX1_clearTables_74 ffX1_27 (by assumption) rfl ?_
    refine fx_alenI dX1_clearTables_77 (by assumption) (by decide) ?_
    refine fx_icmp_ge 101 dX1_clearTables_78 (by decide) (fun c78 => absurd c78 (nI_ge (show k < enl L rows by omega) (by omega))) (fun c78 => ?_)
    refine fx_aloadn dX1_clearTables_81 rfl ?_
    refine fx_get dX1_clearTables_82 ffX1_24 (by assumption) rfl ?_
    refine fx_iloadn dX1_clearTables_85 rfl ?_
    refine fx_iconst (nI 0) dX1_clearTables_86 (by decide) ?_
    refine fx_iastV dX1_clearTables_87 h4 (vp_in_nI (show k < enl L rows by omega) (by omega)) (fun h1' e1 o1 => ?_)
    rw [nI_clamp (by omega)] at e1
    have E1 := E.sett N e1 o1
    obtain ⟨g1, g2, g3, g4, g5, g6⟩ := id E1
    refine fx_aloadn dX1_clearTables_88 rfl ?_
    refine fx_get dX1_clearTables_89 ffX1_27 (by assumption) rfl ?_
    refine fx_iloadn dX1_clearTables_92 rfl ?_
    refine fx_iconst (nI 0) dX1_clearTables_93 (by decide) ?_
    refine fx_iastV dX1_clearTables_94 g5 (vp_in_nI (show k < enl L rows by omega) (by omega)) (fun h2' e2 o2 => ?_)
    rw [nI_clamp (by omega)] at e2
    have E2 := E1.seta N e2 o2
    refine fx_iinc (nI 1) dX1_clearTables_95 rfl (by decide) (by decide) ?_
    refine fx_goto 58 dX1_clearTables_98 (by decide) ?_
    simp only [nI_add]
    refine fx_to (ih (n - 1) (by omega) h2' (k + 1) _ _ (by omega) E2 (fun p hp => ?_) (kp.put (kp.put hk o1 (hfr' _ (Or.inl rfl))) o2 (hfr' _ (Or.inr (Or.inl rfl))))) ⟨rfl, rfl, rfl, trivial⟩
    by_cases q : p = k
    · rw [q, pk_us, pk_us]
      exact ⟨rfl, rfl⟩
    · rw [pk_un q, pk_un q]
      exact hz p (by omega)
  · skip
    refine fx_iloadn dX1_clearTables_58 rfl ?_
    refine fx_iloadn dX1_clearTables_59 rfl ?_
    refine fx_icmp_ge 101 dX1_clearTables_60 (by decide) (fun c60 => ?_) (fun c60 => absurd (nI_le (by omega) (by omega)) c60)
    refine fx_vret dX1_clearTables_101 rfl ?_
    exact ⟨rfl, pt', pa', pl', ft, fa, fl, E, N, fun p hp => hz p (by omega), hfr, hk⟩
theorem kp.fr {e pt pa pl q : Nat} {h h' : fx_H} {c1 c2 c3 c4 c5 : fx_E} (k : kp (fun x => x = e ∨ x = pt ∨ x = pa ∨ x = pl) h h') (_ : h e = some c1) (_ : h pt = some c2) (_ : h pa = some c3) (_ : h pl = some c4) (he : h' e = some c5) (hq : h' q = none) : h q = none ∨ (q = pt ∨ q = pa ∨ q = pl) := by
  by_cases q1 : h q = none
  · exact Or.inl q1
  · by_cases q2 : q = e ∨ q = pt ∨ q = pa ∨ q = pl
    · rcases q2 with z | z
      · rw [z, he] at hq; cases hq
      · exact Or.inr z
    · rw [k q q1 q2] at hq
      exact absurd hq q1
theorem c_en_clear {g : fx_G} {h : fx_H} {e pr pg pt pa pl rows L : Nat} {fr fg ft fa fl : Nat → Int32} (E : en h e pr pg pt pa pl fr fg ft fa fl rows L) (hr : rows ≤ 257) (hL : L ≤ 65792) (N : eap pr pg pt pa pl) : fx_Met g mX1_clearTables 1 21 [.ref e] h 3 (ens L rows) (fun r h' => r = none ∧ ∃ pt' pa' pl' ft' fa' fl', en h' e pr pg pt' pa' pl' fr fg ft' fa' fl' rows (enl L rows) ∧ eap pr pg pt' pa' pl' ∧ (∀ p, p < 256 * rows → ft' p = 0 ∧ fa' p = 0) ∧ (∀ x, x = pt' ∨ x = pa' ∨ x = pl' → x = pt ∨ x = pa ∨ x = pl ∨ h x = none) ∧ kp (fun x => x = e ∨ x = pt ∨ x = pa ∨ x = pl) h h') := by
  obtain ⟨h1, h2, h3, h4, h5, h6⟩ := id E
  have hge := enl_ge (L := L) hr
  have hle := enl_le (rows := rows) hL
  have nr : pr ≠ e := Ne.symm (ne_oa h1 h2)
  have ng : pg ≠ e := Ne.symm (ne_oa h1 h3)
  refine fx_Met.of rfl (Nat.le_of_ble_eq_true rfl) ?_
  by_cases hgr : L < 256 * rows
  · have hens : ens L rows = 3 * enl L rows := if_pos hgr
    refine fx_sipush (nI 256) dX1_clearTables_0 (by decide) ?_
    refine fx_aloadn dX1_clearTables_3 rfl ?_
    refine fx_get dX1_clearTables_4 ffX1_20 (by assumption) rfl ?_
    refine fx_imul dX1_clearTables_7 ?_
    rw [pk_mul]
    refine fx_istoren dX1_clearTables_8 (by decide) ?_
    refine fx_iloadn dX1_clearTables_9 rfl ?_
    refine fx_aloadn dX1_clearTables_10 rfl ?_
    refine fx_get dX1_clearTables_11 ffX1_24 (by assumption) rfl ?_
    refine fx_alenI dX1_clearTables_14 (by assumption) (by decide) ?_
    refine fx_icmp_le 56 dX1_clearTables_15 (by decide) (fun c15 => absurd c15 (nI_ge (show L < 256 * rows by omega) (by omega))) (fun c15 => ?_)
    refine fx_ldc dX1_clearTables_18 qqX1_55 ?_
    refine fx_iloadn dX1_clearTables_20 rfl ?_
    refine fx_iconst (nI 2) dX1_clearTables_21 (by decide) ?_
    refine fx_aloadn dX1_clearTables_22 rfl ?_
    refine fx_get dX1_clearTables_23 ffX1_24 (by assumption) rfl ?_
    refine fx_alenI dX1_clearTables_26 (by assumption) (by decide) ?_
    refine fx_imul dX1_clearTables_27 ?_
    rw [pk_mul]
    refine fx_mmax dX1_clearTables_28 mthX1_56 ms_max inJ9 mc_max (by decide) (by decide) (Nat.le_of_ble_eq_true rfl) ?_
    have e9 : (if nI (256 * rows) < nI (2 * L) then nI (2 * L) else nI (256 * rows)) = nI (if 256 * rows < 2 * L then 2 * L else 256 * rows) := by
      by_cases q : 256 * rows < 2 * L
      · rw [if_pos q, if_pos (nI_lt q (by omega))]
      · rw [if_neg q, if_neg (nI_nlt (by omega) (by omega))]
    rw [e9]
    refine fx_mmin dX1_clearTables_31 mthX1_62 ms_min inJ9 mc_min (by decide) (by decide) (Nat.le_of_ble_eq_true rfl) ?_
    have e8 : (if nI (if 256 * rows < 2 * L then 2 * L else 256 * rows) < nI 65792 then nI (if 256 * rows < 2 * L then 2 * L else 256 * rows) else nI 65792) = nI (enl L rows) := by
      unfold enl
      rw [if_pos hgr]
      generalize hmx : (if 256 * rows < 2 * L then 2 * L else 256 * rows) = mx
      have hmx1 : mx < 2 ^ 20 := by
        rw [← hmx]
        split <;> omega
      by_cases q : mx < 65792
      · rw [if_pos q, if_pos (nI_lt q (by omega))]
      · rw [if_neg q, if_neg (nI_nlt (by omega) (by omega))]
    rw [e8]
    refine fx_istoren dX1_clearTables_34 (by decide) ?_
    refine fx_aloadn dX1_clearTables_35 rfl ?_
    refine fx_iloadn dX1_clearTables_36 rfl ?_
    refine fx_newIV 0 (enl L rows) (by decide) rfl dX1_clearTables_37 ac_int (nI_pos (by omega)) (nI_clamp (by omega)) (by omega) (by omega) (by omega) (fun q1 g1 hq1 e1 o1 => ?_)
    have ea1 := (o1 e (ne_new h1 hq1)).trans h1
    have er1 := (o1 pr (ne_new h2 hq1)).trans h2
    have eg1 := (o1 pg (ne_new h3 hq1)).trans h3
    refine fx_putV dX1_clearTables_39 ffX1_24 ea1 rfl rfl (Nat.le_of_ble_eq_true rfl) (fun g2 e2 o2 => ?_)
    have n1 : q1 ≠ e := Ne.symm (ne_new h1 hq1)
    have et2 := (o2 q1 n1).trans e1
    have er2 := (o2 pr nr).trans er1
    have eg2 := (o2 pg ng).trans eg1
    refine fx_aloadn dX1_clearTables_42 rfl ?_
    refine fx_iloadn dX1_clearTables_43 rfl ?_
    refine fx_newIV 0 (enl L rows) (by decide) rfl dX1_clearTables_44 ac_int (nI_pos (by omega)) (nI_clamp (by omega)) (by omega) (by omega) (by omega) (fun q2 g3 hq2 e3 o3 => ?_)
    have ea3 := (o3 e (ne_new e2 hq2)).trans e2
    have et3 := (o3 q1 (ne_new et2 hq2)).trans et2
    have er3 := (o3 pr (ne_new er2 hq2)).trans er2
    have eg3 := (o3 pg (ne_new eg2 hq2)).trans eg2
    have k2 : kp (fun x => x = e ∨ x = pt ∨ x = pa ∨ x = pl) h g2 := kp.put (kp.put kp.rf o1 (Or.inr hq1)) o2 (Or.inl (Or.inl rfl))
    refine fx_putV dX1_clearTables_46 ffX1_27 ea3 rfl rfl (Nat.le_of_ble_eq_true rfl) (fun g4 e4 o4 => ?_)
    have n2 : q2 ≠ e := Ne.symm (ne_new e2 hq2)
    have et4 := (o4 q1 n1).trans et3
    have eq4 := (o4 q2 n2).trans e3
    have er4 := (o4 pr nr).trans er3
    have eg4 := (o4 pg ng).trans eg3
    have k4 : kp (fun x => x = e ∨ x = pt ∨ x = pa ∨ x = pl) h g4 := kp.put (k2.tr (kp.put (kp.rf (S := fun x => x = q2)) o3 (Or.inl rfl)) (fun x hx hn => by subst hx; exact (k2.fr h1 h4 h5 h6 e2 hq2).elim (fun z => absurd z hn) Or.inr)) o4 (Or.inl (Or.inl rfl))
    refine fx_aloadn dX1_clearTables_49 rfl ?_
    refine fx_iloadn dX1_clearTables_50 rfl ?_
    refine fx_newIV 0 (enl L rows) (by decide) rfl dX1_clearTables_51 ac_int (nI_pos (by omega)) (nI_clamp (by omega)) (by omega) (by omega) (by omega) (fun q3 g5 hq3 e5 o5 => ?_)
    have ea5 := (o5 e (ne_new e4 hq3)).trans e4
    have et5 := (o5 q1 (ne_new et4 hq3)).trans et4
    have eq5 := (o5 q2 (ne_new eq4 hq3)).trans eq4
    have er5 := (o5 pr (ne_new er4 hq3)).trans er4
    have eg5 := (o5 pg (ne_new eg4 hq3)).trans eg4
    refine fx_putV dX1_clearTables_53 ffX1_30 ea5 rfl rfl (Nat.le_of_ble_eq_true rfl) (fun g6 e6 o6 => ?_)
    have n3 : q3 ≠ e := Ne.symm (ne_new e4 hq3)
    have et6 := (o6 q1 n1).trans et5
    have eq6 := (o6 q2 n2).trans eq5
    have el6 := (o6 q3 n3).trans e5
    have er6 := (o6 pr nr).trans er5
    have eg6 := (o6 pg ng).trans eg5
    have k6 : kp (fun x => x = e ∨ x = pt ∨ x = pa ∨ x = pl) h g6 := kp.put (k4.tr (kp.put (kp.rf (S := fun x => x = q3)) o5 (Or.inl rfl)) (fun x hx hn => by subst hx; exact (k4.fr h1 h4 h5 h6 e4 hq3).elim (fun z => absurd z hn) Or.inr)) o6 (Or.inl (Or.inl rfl))
    refine fx_iconst (nI 0) dX1_clearTables_56 (by decide) ?_
    refine fx_istoren dX1_clearTables_57 (by decide) ?_
    refine fx_to (l_en_clear (h0 := h) hr hL (pt' := q1) (pa' := q2) (pl' := q3) ⟨⟨N.1.1, ne_new h2 hq1, ne_new er2 hq2, ne_new er4 hq3⟩, ⟨ne_new h3 hq1, ne_new eg2 hq2, ne_new eg4 hq3⟩, ⟨ne_new et2 hq2, ne_new et4 hq3⟩, ne_new eq4 hq3⟩ (fun x hx => ?_) (256 * rows) g6 0 _ _ (by omega) ⟨e6, er6, eg6, et6, eq6, el6⟩ (fun p hp => by omega) k6) ⟨rfl, rfl, rfl, trivial⟩
    rcases hx with q | q | q
    · exact Or.inr (Or.inr (Or.inr (by rw [q]; exact hq1)))
    · rw [q]
      rcases k2.fr h1 h4 h5 h6 e2 hq2 with z | z | z | z <;> simp [z]
    · rw [q]
      rcases k4.fr h1 h4 h5 h6 e4 hq3 with z | z | z | z <;> simp [z]
  · skip
    refine fx_sipush (nI 256) dX1_clearTables_0 (by decide) ?_
    refine fx_aloadn dX1_clearTables_3 rfl ?_
    refine fx_get dX1_clearTables_4 ffX1_20 (by assumption) rfl ?_
    refine fx_imul dX1_clearTables_7 ?_
    rw [pk_mul]
    refine fx_istoren dX1_clearTables_8 (by decide) ?_
    refine fx_iloadn dX1_clearTables_9 rfl ?_
    refine fx_aloadn dX1_clearTables_10 rfl ?_
    refine fx_get dX1_clearTables_11 ffX1_24 (by assumption) rfl ?_
    refine fx_alenI dX1_clearTables_14 (by assumption) (by decide) ?_
    refine fx_icmp_le 56 dX1_clearTables_15 (by decide) (fun c15 => ?_) (fun c15 => absurd (nI_le (by omega) (by omega)) c15)
    refine fx_iconst (nI 0) dX1_clearTables_56 (by decide) ?_
    refine fx_istoren dX1_clearTables_57 (by decide) ?_
    have el : enl L rows = L := if_neg hgr
    rw [← el] at E
    exact fx_to (l_en_clear (h0 := h) hr hL N (fun x hx => by rcases hx with q | q | q <;> simp [q]) (256 * rows) h 0 _ _ (by omega) E (fun p hp => by omega) kp.rf) ⟨rfl, rfl, rfl, trivial⟩
theorem nI_pm (x : Int32) (h : x = -1 ∨ ∃ j, j < 2 ^ 30 ∧ x = nI j) (h0 : x + nI 1 = 0) : x = -1 := by
  rcases h with q | ⟨j, hj, q⟩
  · exact q
  · rw [q, nI_add] at h0
    exact absurd ((nI_eq0 (by omega)).mp h0) (by omega)
theorem l_en_note {g : fx_G} {h0 : fx_H} {e pr pg pt pa pl rows L a nw x : Nat} {fr fg ft0 fa fl : Nat → Int32} {b : Nat → Nat} {S : Nat → Prop} {z9 : Int32} (V : ml_v b nw) (F5 : ml_f5 b) (N : eap pr pg pt pa pl) (hL : L ≤ 65792) (hrL : 256 * ml_rk b 257 ≤ L) (hx : x ≤ 256) (hp : ml_ps b x ≠ -1) (HF : ∀ h', kp (fun x => x = pt) h0 h' → fo S h' a b nw z9) : ∀ (n : Nat) (h : fx_H) (k : Nat) (ft : Nat → Int32) (i : Int32), k + n = ml_rl b 6 → en h e pr pg pt pa pl fr fg ft fa fl rows L → (∀ y, y < 256 → (ft (ml_P b x y) ≠ 0 ∧ ft (ml_P b x y) = ml_tt b x y + nI 1) ∨ (ft (ml_P b x y) = 0 ∧ ml_seek b (nI y) n i = ml_tt b x y)) → (∀ p, p / 256 ≠ ml_rk b x → ft p = ft0 p) → ml_ok b i → kp (fun x => x = pt) h0 h → fx_Y g mX1_noteSteps 4 88 (fun r h' => r = none ∧ ∃ ft', en h' e pr pg pt pa pl fr fg ft' fa fl rows L ∧ (∀ y, y < 256 → ft' (ml_P b x y) = ml_tt b x y + nI 1) ∧ (∀ p, p / 256 ≠ ml_rk b x → ft' p = ft0 p) ∧ kp (fun x => x = pt) h0 h') (fun _ _ => False) 14 [(0, .ref e), (1, .ref a), (2, .int (nI (ml_rk b x))), (3, .int i), (4, .int (nI k))] [] h 0 0 := by
  have hNL := V.rl (r := 6) (by decide)
  intro n
  induction n using Nat.strongRecOn with
  | ind n ih =>
  intro h k ft i hn E hinv9 hoth hi hk
  have hinv : ∀ y, y < 256 → ft (ml_P b x y) = ml_tt b x y + nI 1 ∨ (ft (ml_P b x y) = 0 ∧ ml_seek b (nI y) n i = ml_tt b x y) := fun y hy => (hinv9 y hy).elim (fun q => Or.inl q.2) Or.inr
  obtain ⟨h1, h2, h3, h4, h5, h6⟩ := id E
  have H := HF h hk
  obtain ⟨hff, hf1⟩ := H.at
  by_cases hn0 : n = 0
  · skip
    refine fx_iload dX1_noteSteps_14 rfl ?_
    refine fx_aloadn dX1_noteSteps_16 rfl ?_
    refine fx_bipush (nI 6) dX1_noteSteps_17 (by decide) ?_
    refine fx_callVp dX1_noteSteps_19 vX3_rowLength kkX1_65 rfl rfl (by assumption) (p_fo_rowLength H V 6 (by decide)) rfl (by decide) (by decide) rfl (Nat.le_of_ble_eq_true rfl) ?_
    refine fx_icmp_ge 93 dX1_noteSteps_22 (by decide) (fun c22 => ?_) (fun c22 => absurd (nI_le (by omega) (by omega)) c22)
    refine fx_vret dX1_noteSteps_93 rfl ?_
    refine ⟨rfl, ft, E, fun y hy => ?_, hoth, hk⟩
    rcases hinv y hy with q | ⟨q1, q2⟩
    · exact q
    · rw [show n = 0 by omega] at q2
      rw [q1, ← q2]
      show (0 : Int32) = -1 + nI 1
      decide
  rcases hi with rfl | ⟨j, hj, rfl⟩
  · skip
    refine fx_iload dX1_noteSteps_14 rfl ?_
    refine fx_aloadn dX1_noteSteps_16 rfl ?_
    refine fx_bipush (nI 6) dX1_noteSteps_17 (by decide) ?_
    refine fx_callVp dX1_noteSteps_19 vX3_rowLength kkX1_65 rfl rfl (by assumption) (p_fo_rowLength H V 6 (by decide)) rfl (by decide) (by decide) rfl (Nat.le_of_ble_eq_true rfl) ?_
    refine fx_icmp_ge 93 dX1_noteSteps_22 (by decide) (fun c22 => absurd c22 (nI_ge (show k < ml_rl b 6 by omega) (by omega))) (fun c22 => ?_)
    refine fx_iloadn dX1_noteSteps_25 rfl ?_
    refine fx_iconst (-1) dX1_noteSteps_26 (by decide) ?_
    refine fx_icmp_eq 93 dX1_noteSteps_27 (by decide) (fun c27 => ?_) (fun c27 => absurd (rfl) c27)
    refine fx_vret dX1_noteSteps_93 rfl ?_
    refine ⟨rfl, ft, E, fun y hy => ?_, hoth, hk⟩
    rcases hinv y hy with q | ⟨q1, q2⟩
    · exact q
    · rw [seek_m1] at q2
      rw [q1, ← q2]
      decide
  · have hnl := ml_n_lt (b := b) (nI j)
    have hpL : 256 * ml_rk b x + ml_n b (nI j) < L := Nat.lt_of_lt_of_le (mP_lt (y := ml_n b (nI j)) hx hp hnl) hrL
    have hinv0 : ∀ y, y < 256 → ft (256 * ml_rk b x + y) = 0 → ml_seek b (nI y) n (nI j) = ml_tt b x y := fun y hy h0 => by
      rcases hinv9 y hy with q | q
      · exact absurd h0 q.1
      · exact q.2
    by_cases hjm : 128 < ml_s b (nI j)
    · skip
      refine fx_iload dX1_noteSteps_14 rfl ?_
      refine fx_aloadn dX1_noteSteps_16 rfl ?_
      refine fx_bipush (nI 6) dX1_noteSteps_17 (by decide) ?_
      refine fx_callVp dX1_noteSteps_19 vX3_rowLength kkX1_65 rfl rfl (by assumption) (p_fo_rowLength H V 6 (by decide)) rfl (by decide) (by decide) rfl (Nat.le_of_ble_eq_true rfl) ?_
      refine fx_icmp_ge 93 dX1_noteSteps_22 (by decide) (fun c22 => absurd c22 (nI_ge (show k < ml_rl b 6 by omega) (by omega))) (fun c22 => ?_)
      refine fx_iloadn dX1_noteSteps_25 rfl ?_
      refine fx_iconst (-1) dX1_noteSteps_26 (by decide) ?_
      refine fx_icmp_eq 93 dX1_noteSteps_27 (by decide) (fun c27 => absurd c27 (nI_m1 _ (by omega))) (fun c27 => ?_)
      refine fx_sipush (nI 256) dX1_noteSteps_30 (by decide) ?_
      refine fx_iloadn dX1_noteSteps_33 rfl ?_
      refine fx_imul dX1_noteSteps_34 ?_
      refine fx_aloadn dX1_noteSteps_35 rfl ?_
      refine fx_iloadn dX1_noteSteps_36 rfl ?_
      refine fx_callVp dX1_noteSteps_37 vX3_signOf kkX1_68 rfl rfl (by assumption) (p_fo_signOf H V _) rfl (by decide) (by decide) rfl (Nat.le_of_ble_eq_true rfl) ?_
      refine fx_iadd dX1_noteSteps_40 ?_
      rw [pk_mul, nI_add]
      refine fx_istore dX1_noteSteps_41 (by decide) ?_
      refine fx_aloadn dX1_noteSteps_43 rfl ?_
      refine fx_iloadn dX1_noteSteps_44 rfl ?_
      refine fx_callVp dX1_noteSteps_45 vX3_isJump kkX1_70 rfl rfl (by assumption) (p_fo_isJump H V _) rfl (by decide) (by decide) rfl (Nat.le_of_ble_eq_true rfl) ?_
      refine fx_if_ne 81 dX1_noteSteps_48 (by decide) (fun c48 => ?_) (fun c48 => absurd c48 (bI_n0.mpr hjm))
      refine fx_aloadn dX1_noteSteps_81 rfl ?_
      refine fx_iloadn dX1_noteSteps_82 rfl ?_
      refine fx_callVp dX1_noteSteps_83 vX3_nextStep kkX1_74 rfl rfl (by assumption) (p_fo_nextStep H V _) rfl (by decide) (by decide) rfl (Nat.le_of_ble_eq_true rfl) ?_
      refine fx_istoren dX1_noteSteps_86 (by decide) ?_
      refine fx_iinc (nI 1) dX1_noteSteps_87 rfl (by decide) (by decide) ?_
      refine fx_goto 14 dX1_noteSteps_90 (by decide) ?_
      simp only [nI_add]
      have en9 : n = n - 1 + 1 := by omega
      refine fx_to (ih (n - 1) (by omega) h (k + 1) _ _ (by omega) E (fun y hy => ?_) hoth (by
        by_cases q : 128 < ml_s b (nI j)
        · unfold ml_nx
          rw [if_pos (by omega)]
          exact Or.inl rfl
        · rcases ok_nx V F5 hj q with z | ⟨w9, -, hw, z⟩
          · exact Or.inl z
          · exact Or.inr ⟨w9, hw, z⟩) hk) ⟨rfl, rfl, rfl, rfl, rfl, trivial⟩
      rcases hinv9 y hy with q | ⟨q1, q2⟩
      · exact Or.inl q
      · refine Or.inr ⟨q1, ?_⟩
        rw [← q2, en9]
        show _ = ml_seek b (nI y) (n - 1 + 1) (nI j)
        conv => rhs; unfold ml_seek
        rw [if_neg (nI_m1 _ (by omega)), if_neg (fun z => z.1 hjm)]
        rfl
    · by_cases h9 : ft (256 * ml_rk b x + ml_n b (nI j)) = 0
      · skip
        refine fx_iload dX1_noteSteps_14 rfl ?_
        refine fx_aloadn dX1_noteSteps_16 rfl ?_
        refine fx_bipush (nI 6) dX1_noteSteps_17 (by decide) ?_
        refine fx_callVp dX1_noteSteps_19 vX3_rowLength kkX1_65 rfl rfl (by assumption) (p_fo_rowLength H V 6 (by decide)) rfl (by decide) (by decide) rfl (Nat.le_of_ble_eq_true rfl) ?_
        refine fx_icmp_ge 93 dX1_noteSteps_22 (by decide) (fun c22 => absurd c22 (nI_ge (show k < ml_rl b 6 by omega) (by omega))) (fun c22 => ?_)
        refine fx_iloadn dX1_noteSteps_25 rfl ?_
        refine fx_iconst (-1) dX1_noteSteps_26 (by decide) ?_
        refine fx_icmp_eq 93 dX1_noteSteps_27 (by decide) (fun c27 => absurd c27 (nI_m1 _ (by omega))) (fun c27 => ?_)
        refine fx_sipush (nI 256) dX1_noteSteps_30 (by decide) ?_
        refine fx_iloadn dX1_noteSteps_33 rfl ?_
        refine fx_imul dX1_noteSteps_34 ?_
        refine fx_aloadn dX1_noteSteps_35 rfl ?_
        refine fx_iloadn dX1_noteSteps_36 rfl ?_
        refine fx_callVp dX1_noteSteps_37 vX3_signOf kkX1_68 rfl rfl (by assumption) (p_fo_signOf H V _) rfl (by decide) (by decide) rfl (Nat.le_of_ble_eq_true rfl) ?_
        refine fx_iadd dX1_noteSteps_40 ?_
        rw [pk_mul, nI_add]
        refine fx_istore dX1_noteSteps_41 (by decide) ?_
        refine fx_aloadn dX1_noteSteps_43 rfl ?_
        refine fx_iloadn dX1_noteSteps_44 rfl ?_
        refine fx_callVp dX1_noteSteps_45 vX3_isJump kkX1_70 rfl rfl (by assumption) (p_fo_isJump H V _) rfl (by decide) (by decide) rfl (Nat.le_of_ble_eq_true rfl) ?_
        refine fx_if_ne 81 dX1_noteSteps_48 (by decide) (fun c48 => absurd (bI_0.mpr hjm) c48) (fun c48 => ?_)
        refine fx_iload dX1_noteSteps_51 rfl ?_
        refine fx_aloadn dX1_noteSteps_53 rfl ?_
        refine fx_get dX1_noteSteps_54 ffX1_24 (by assumption) rfl ?_
        refine fx_alenI dX1_noteSteps_57 (by assumption) (by decide) ?_
        refine fx_icmp_ge 81 dX1_noteSteps_58 (by decide) (fun c58 => absurd c58 (nI_ge hpL (by omega))) (fun c58 => ?_)
        refine fx_aloadn dX1_noteSteps_61 rfl ?_
        refine fx_get dX1_noteSteps_62 ffX1_24 (by assumption) rfl ?_
        refine fx_iload dX1_noteSteps_65 rfl ?_
        refine fx_iald dX1_noteSteps_67 h4 (vp_in_nI hpL (by omega)) ?_
        rw [nI_clamp (by omega)]
        refine fx_if_ne 81 dX1_noteSteps_68 (by decide) (fun c68 => absurd (h9) c68) (fun c68 => ?_)
        refine fx_aloadn dX1_noteSteps_71 rfl ?_
        refine fx_get dX1_noteSteps_72 ffX1_24 (by assumption) rfl ?_
        refine fx_iload dX1_noteSteps_75 rfl ?_
        refine fx_iloadn dX1_noteSteps_77 rfl ?_
        refine fx_iconst (nI 1) dX1_noteSteps_78 (by decide) ?_
        refine fx_iadd dX1_noteSteps_79 ?_
        rw [nI_add]
        refine fx_iastV dX1_noteSteps_80 h4 (vp_in_nI hpL (by omega)) (fun h1' e1 o1 => ?_)
        rw [nI_clamp (by omega)] at e1
        have E1 := E.sett N e1 o1
        have k1 := kp.put hk o1 (Or.inl rfl)
        have H := HF h1' k1
        obtain ⟨hff1, hf11⟩ := H.at
        refine fx_aloadn dX1_noteSteps_81 rfl ?_
        refine fx_iloadn dX1_noteSteps_82 rfl ?_
        refine fx_callVp dX1_noteSteps_83 vX3_nextStep kkX1_74 rfl rfl (by assumption) (p_fo_nextStep H V _) rfl (by decide) (by decide) rfl (Nat.le_of_ble_eq_true rfl) ?_
        refine fx_istoren dX1_noteSteps_86 (by decide) ?_
        refine fx_iinc (nI 1) dX1_noteSteps_87 rfl (by decide) (by decide) ?_
        refine fx_goto 14 dX1_noteSteps_90 (by decide) ?_
        simp only [nI_add]
        have en9 : n = n - 1 + 1 := by omega
        refine fx_to (ih (n - 1) (by omega) h1' (k + 1) _ _ (by omega) E1 (fun y hy => ?_) (fun p hp9 => by rw [pk_un (fun z => hp9 (by rw [z]; omega))]; exact hoth p hp9) (by
          by_cases q : 128 < ml_s b (nI j)
          · unfold ml_nx
            rw [if_pos (by omega)]
            exact Or.inl rfl
          · rcases ok_nx V F5 hj q with z | ⟨w9, -, hw, z⟩
            · exact Or.inl z
            · exact Or.inr ⟨w9, hw, z⟩) k1) ⟨rfl, rfl, rfl, rfl, rfl, trivial⟩
        by_cases q9 : y = ml_n b (nI j)
        · rw [q9, show ml_P b x (ml_n b (nI j)) = 256 * ml_rk b x + ml_n b (nI j) from rfl, pk_us]
          refine Or.inl ?_
          have q2 := (hinv0 (ml_n b (nI j)) hnl h9)
          rw [← q2, en9]
          unfold ml_seek
          rw [if_neg (nI_m1 _ (by omega)), if_pos ⟨hjm, rfl⟩, nI_add]
          exact ⟨fun e => absurd ((nI_eq0 (by omega)).mp e) (by omega), rfl⟩
        · rw [pk_un (show ml_P b x y ≠ 256 * ml_rk b x + ml_n b (nI j) by unfold ml_P; omega)]
          rcases hinv9 y hy with q | ⟨q1, q2⟩
          · exact Or.inl q
          · refine Or.inr ⟨q1, ?_⟩
            rw [← q2, en9]
            show _ = ml_seek b (nI y) (n - 1 + 1) (nI j)
            conv => rhs; unfold ml_seek
            rw [if_neg (nI_m1 _ (by omega)), if_neg (fun z => q9 ((nI_eq (by omega) (by omega)).mp z.2).symm)]
            rfl
      · skip
        refine fx_iload dX1_noteSteps_14 rfl ?_
        refine fx_aloadn dX1_noteSteps_16 rfl ?_
        refine fx_bipush (nI 6) dX1_noteSteps_17 (by decide) ?_
        refine fx_callVp dX1_noteSteps_19 vX3_rowLength kkX1_65 rfl rfl (by assumption) (p_fo_rowLength H V 6 (by decide)) rfl (by decide) (by decide) rfl (Nat.le_of_ble_eq_true rfl) ?_
        refine fx_icmp_ge 93 dX1_noteSteps_22 (by decide) (fun c22 => absurd c22 (nI_ge (show k < ml_rl b 6 by omega) (by omega))) (fun c22 => ?_)
        refine fx_iloadn dX1_noteSteps_25 rfl ?_
        refine fx_iconst (-1) dX1_noteSteps_26 (by decide) ?_
        refine fx_icmp_eq 93 dX1_noteSteps_27 (by decide) (fun c27 => absurd c27 (nI_m1 _ (by omega))) (fun c27 => ?_)
        refine fx_sipush (nI 256) dX1_noteSteps_30 (by decide) ?_
        refine fx_iloadn dX1_noteSteps_33 rfl ?_
        refine fx_imul dX1_noteSteps_34 ?_
        refine fx_aloadn dX1_noteSteps_35 rfl ?_
        refine fx_iloadn dX1_noteSteps_36 rfl ?_
        refine fx_callVp dX1_noteSteps_37 vX3_signOf kkX1_68 rfl rfl (by assumption) (p_fo_signOf H V _) rfl (by decide) (by decide) rfl (Nat.le_of_ble_eq_true rfl) ?_
        refine fx_iadd dX1_noteSteps_40 ?_
        rw [pk_mul, nI_add]
        refine fx_istore dX1_noteSteps_41 (by decide) ?_
        refine fx_aloadn dX1_noteSteps_43 rfl ?_
        refine fx_iloadn dX1_noteSteps_44 rfl ?_
        refine fx_callVp dX1_noteSteps_45 vX3_isJump kkX1_70 rfl rfl (by assumption) (p_fo_isJump H V _) rfl (by decide) (by decide) rfl (Nat.le_of_ble_eq_true rfl) ?_
        refine fx_if_ne 81 dX1_noteSteps_48 (by decide) (fun c48 => absurd (bI_0.mpr hjm) c48) (fun c48 => ?_)
        refine fx_iload dX1_noteSteps_51 rfl ?_
        refine fx_aloadn dX1_noteSteps_53 rfl ?_
        refine fx_get dX1_noteSteps_54 ffX1_24 (by assumption) rfl ?_
        refine fx_alenI dX1_noteSteps_57 (by assumption) (by decide) ?_
        refine fx_icmp_ge 81 dX1_noteSteps_58 (by decide) (fun c58 => absurd c58 (nI_ge hpL (by omega))) (fun c58 => ?_)
        refine fx_aloadn dX1_noteSteps_61 rfl ?_
        refine fx_get dX1_noteSteps_62 ffX1_24 (by assumption) rfl ?_
        refine fx_iload dX1_noteSteps_65 rfl ?_
        refine fx_iald dX1_noteSteps_67 h4 (vp_in_nI hpL (by omega)) ?_
        rw [nI_clamp (by omega)]
        refine fx_if_ne 81 dX1_noteSteps_68 (by decide) (fun c68 => ?_) (fun c68 => absurd c68 (h9))
        refine fx_aloadn dX1_noteSteps_81 rfl ?_
        refine fx_iloadn dX1_noteSteps_82 rfl ?_
        refine fx_callVp dX1_noteSteps_83 vX3_nextStep kkX1_74 rfl rfl (by assumption) (p_fo_nextStep H V _) rfl (by decide) (by decide) rfl (Nat.le_of_ble_eq_true rfl) ?_
        refine fx_istoren dX1_noteSteps_86 (by decide) ?_
        refine fx_iinc (nI 1) dX1_noteSteps_87 rfl (by decide) (by decide) ?_
        refine fx_goto 14 dX1_noteSteps_90 (by decide) ?_
        simp only [nI_add]
        have en9 : n = n - 1 + 1 := by omega
        refine fx_to (ih (n - 1) (by omega) h (k + 1) _ _ (by omega) E (fun y hy => ?_) hoth (by
          by_cases q : 128 < ml_s b (nI j)
          · unfold ml_nx
            rw [if_pos (by omega)]
            exact Or.inl rfl
          · rcases ok_nx V F5 hj q with z | ⟨w9, -, hw, z⟩
            · exact Or.inl z
            · exact Or.inr ⟨w9, hw, z⟩) hk) ⟨rfl, rfl, rfl, rfl, rfl, trivial⟩
        by_cases q9 : y = ml_n b (nI j)
        · rcases hinv9 y hy with q | ⟨q1, q2⟩
          · exact Or.inl q
          · rw [q9] at q1
            exact absurd q1 h9
        · rcases hinv9 y hy with q | ⟨q1, q2⟩
          · exact Or.inl q
          · refine Or.inr ⟨q1, ?_⟩
            rw [← q2, en9]
            show _ = ml_seek b (nI y) (n - 1 + 1) (nI j)
            conv => rhs; unfold ml_seek
            rw [if_neg (nI_m1 _ (by omega)), if_neg (fun z => q9 ((nI_eq (by omega) (by omega)).mp z.2).symm)]
            rfl
theorem c_en_note {g : fx_G} {h : fx_H} {e pr pg pt pa pl rows L a nw : Nat} {fr fg ft fa fl : Nat → Int32} {b : Nat → Nat} {S : Nat → Prop} {z9 : Int32} (E : en h e pr pg pt pa pl fr fg ft fa fl rows L) (B : enb b fr fg) (V : ml_v b nw) (F5 : ml_f5 b) (F3 : ml_F3a b) (N : eap pr pg pt pa pl) (hL : L ≤ 65792) (hrL : 256 * ml_rk b 257 ≤ L) (x : Nat) (hx : x ≤ 256) (hp : ml_ps b x ≠ -1) (hz : ∀ y, y < 256 → ft (ml_P b x y) = 0) (HF : ∀ h', kp (fun x => x = pt) h h' → fo S h' a b nw z9) : fx_Met g mX1_noteSteps 4 88 [.ref e, .ref a, .int (nI (ml_rk b x))] h 0 0 (fun r h' => r = none ∧ ∃ ft', en h' e pr pg pt pa pl fr fg ft' fa fl rows L ∧ (∀ y, y < 256 → ft' (ml_P b x y) = ml_tt b x y + nI 1) ∧ (∀ p, p / 256 ≠ ml_rk b x → ft' p = ft p) ∧ kp (fun x => x = pt) h h') := by
  obtain ⟨h1, h2, h3, h4, h5, h6⟩ := id E
  have H := HF h kp.rf
  obtain ⟨hff, hf1⟩ := H.at
  have hrk := rk_le b x
  refine fx_Met.of rfl (Nat.le_of_ble_eq_true rfl) ?_
  refine fx_aloadn dX1_noteSteps_0 rfl ?_
  refine fx_aloadn dX1_noteSteps_1 rfl ?_
  refine fx_get dX1_noteSteps_2 ffX1_17 (by assumption) rfl ?_
  refine fx_iloadn dX1_noteSteps_5 rfl ?_
  refine fx_iald dX1_noteSteps_6 h3 (vp_in_nI (show ml_rk b x < 257 by omega) (by decide)) ?_
  rw [nI_clamp (by omega), B.2 x hx hp]
  refine fx_callVp dX1_noteSteps_7 vX3_programStart kkX1_52 rfl rfl (by assumption) (p_fo_programStart H V x hx) rfl (by decide) (by decide) rfl (Nat.le_of_ble_eq_true rfl) ?_
  refine fx_istoren dX1_noteSteps_10 (by decide) ?_
  refine fx_iconst (nI 0) dX1_noteSteps_11 (by decide) ?_
  refine fx_istore dX1_noteSteps_12 (by decide) ?_
  exact fx_to (l_en_note (h0 := h) (ft0 := ft) (x := x) V F5 N hL hrL hx hp HF (ml_rl b 6) h 0 ft _ (by omega) E (fun y hy => Or.inr ⟨hz y hy, rfl⟩) (fun _ _ => rfl) (ok_ps V F3 F5 hx) kp.rf) ⟨rfl, rfl, rfl, rfl, rfl, trivial⟩
