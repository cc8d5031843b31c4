/-! FontDesk$Endings -/
def en (h : fx_H) (e pr pg pt pa pl : Nat) (fr fg ft fa fl : Nat → Int32) (rows L : Nat) : Prop := h e = some (.inr (1, [.ref pr, .ref pg, .int (nI rows), .ref pt, .ref pa, .ref pl])) ∧ h pr = some (.inl (0, 257, .inl fr)) ∧ h pg = some (.inl (0, 257, .inl fg)) ∧ h pt = some (.inl (0, L, .inl ft)) ∧ h pa = some (.inl (0, L, .inl fa)) ∧ h pl = some (.inl (0, L, .inl fl))
def eap (pr pg pt pa pl : Nat) : Prop := (pr ≠ pg ∧ pr ≠ pt ∧ pr ≠ pa ∧ pr ≠ pl) ∧ (pg ≠ pt ∧ pg ≠ pa ∧ pg ≠ pl) ∧ (pt ≠ pa ∧ pt ≠ pl) ∧ pa ≠ pl
/-- the numbers of the programs, as the file has them -/
def enb (b : Nat → Nat) (fr fg : Nat → Int32) : Prop := (∀ x, x ≤ 256 → fr x = if ml_ps b x = -1 then -1 else nI (ml_rk b x)) ∧ ∀ x, x ≤ 256 → ml_ps b x ≠ -1 → fg (ml_rk b x) = nI x
/-- the steps, as the file has them -/
def ent (b : Nat → Nat) (ft : Nat → Int32) : Prop := ∀ x y, x ≤ 256 → y < 256 → ml_ps b x ≠ -1 → ft (ml_P b x y) = ml_tt b x y + nI 1
theorem en.kept {h h' : fx_H} {e pr pg pt pa pl rows L : Nat} {fr fg ft fa fl : Nat → Int32} (E : en h e pr pg pt pa pl fr fg ft fa fl rows L) (k : ∀ x, x = e ∨ x = pr ∨ x = pg ∨ x = pt ∨ x = pa ∨ x = pl → h' x = h x) : en h' e pr pg pt pa pl fr fg ft fa fl rows L :=
  ⟨(k _ (by simp)).trans E.1, (k _ (by simp)).trans E.2.1, (k _ (by simp)).trans E.2.2.1, (k _ (by simp)).trans E.2.2.2.1, (k _ (by simp)).trans E.2.2.2.2.1, (k _ (by simp)).trans E.2.2.2.2.2⟩
theorem en.seta {h h' : fx_H} {e pr pg pt pa pl rows L : Nat} {fr fg ft fa fl f' : Nat → Int32} (E : en h e pr pg pt pa pl fr fg ft fa fl rows L) (N : eap pr pg pt pa pl) (q : h' pa = some (.inl (0, L, .inl f'))) (o : ∀ x, x ≠ pa → h' x = h x) : en h' e pr pg pt pa pl fr fg ft f' fl rows L :=
  ⟨(o _ (ne_oa E.1 E.2.2.2.2.1)).trans E.1, (o _ N.1.2.2.1).trans E.2.1, (o _ N.2.1.2.1).trans E.2.2.1, (o _ N.2.2.1.1).trans E.2.2.2.1, q, (o _ (Ne.symm N.2.2.2)).trans E.2.2.2.2.2⟩
theorem en.setl {h h' : fx_H} {e pr pg pt pa pl rows L : Nat} {fr fg ft fa fl f' : Nat → Int32} (E : en h e pr pg pt pa pl fr fg ft fa fl rows L) (N : eap pr pg pt pa pl) (q : h' pl = some (.inl (0, L, .inl f'))) (o : ∀ x, x ≠ pl → h' x = h x) : en h' e pr pg pt pa pl fr fg ft fa f' rows L :=
  ⟨(o _ (ne_oa E.1 E.2.2.2.2.2)).trans E.1, (o _ N.1.2.2.2).trans E.2.1, (o _ N.2.1.2.2).trans E.2.2.1, (o _ N.2.2.1.2).trans E.2.2.2.1, (o _ N.2.2.2).trans E.2.2.2.2.1, q⟩
theorem en.sett {h h' : fx_H} {e pr pg pt pa pl rows L : Nat} {fr fg ft fa fl f' : Nat → Int32} (E : en h e pr pg pt pa pl fr fg ft fa fl rows L) (N : eap pr pg pt pa pl) (q : h' pt = some (.inl (0, L, .inl f'))) (o : ∀ x, x ≠ pt → h' x = h x) : en h' e pr pg pt pa pl fr fg f' fa fl rows L :=
  ⟨(o _ (ne_oa E.1 E.2.2.2.1)).trans E.1, (o _ N.1.2.1).trans E.2.1, (o _ N.2.1.1).trans E.2.2.1, q, (o _ (Ne.symm N.2.2.1.1)).trans E.2.2.2.2.1, (o _ (Ne.symm N.2.2.1.2)).trans E.2.2.2.2.2⟩
theorem en.setr {h h' : fx_H} {e pr pg pt pa pl rows L : Nat} {fr fg ft fa fl f' : Nat → Int32} (E : en h e pr pg pt pa pl fr fg ft fa fl rows L) (N : eap pr pg pt pa pl) (q : h' pr = some (.inl (0, 257, .inl f'))) (o : ∀ x, x ≠ pr → h' x = h x) : en h' e pr pg pt pa pl f' fg ft fa fl rows L :=
  ⟨(o _ (ne_oa E.1 E.2.1)).trans E.1, q, (o _ (Ne.symm N.1.1)).trans E.2.2.1, (o _ (Ne.symm N.1.2.1)).trans E.2.2.2.1, (o _ (Ne.symm N.1.2.2.1)).trans E.2.2.2.2.1, (o _ (Ne.symm N.1.2.2.2)).trans E.2.2.2.2.2⟩
theorem en.setg {h h' : fx_H} {e pr pg pt pa pl rows L : Nat} {fr fg ft fa fl f' : Nat → Int32} (E : en h e pr pg pt pa pl fr fg ft fa fl rows L) (N : eap pr pg pt pa pl) (q : h' pg = some (.inl (0, 257, .inl f'))) (o : ∀ x, x ≠ pg → h' x = h x) : en h' e pr pg pt pa pl fr f' ft fa fl rows L :=
  ⟨(o _ (ne_oa E.1 E.2.2.1)).trans E.1, (o _ N.1.1).trans E.2.1, q, (o _ (Ne.symm N.2.1.1)).trans E.2.2.2.1, (o _ (Ne.symm N.2.1.2.1)).trans E.2.2.2.2.1, (o _ (Ne.symm N.2.1.2.2)).trans E.2.2.2.2.2⟩
theorem en.seto {h h' : fx_H} {e pr pg pt pa pl rows rows' L : Nat} {fr fg ft fa fl : Nat → Int32} (E : en h e pr pg pt pa pl fr fg ft fa fl rows L) (q : h' e = some (.inr (1, [.ref pr, .ref pg, .int (nI rows'), .ref pt, .ref pa, .ref pl]))) (o : ∀ x, x ≠ e → h' x = h x) : en h' e pr pg pt pa pl fr fg ft fa fl rows' L :=
  ⟨q, (o _ (Ne.symm (ne_oa E.1 E.2.1))).trans E.2.1, (o _ (Ne.symm (ne_oa E.1 E.2.2.1))).trans E.2.2.1, (o _ (Ne.symm (ne_oa E.1 E.2.2.2.1))).trans E.2.2.2.1, (o _ (Ne.symm (ne_oa E.1 E.2.2.2.2.1))).trans E.2.2.2.2.1, (o _ (Ne.symm (ne_oa E.1 E.2.2.2.2.2))).trans E.2.2.2.2.2⟩

theorem p_en_stateOf {g : fx_G} {h : fx_H} {e pr pg pt pa pl rows L : Nat} {fr fg ft fa fl : Nat → Int32} (E : en h e pr pg pt pa pl fr fg ft fa fl rows L) (hL : L ≤ 65792) (p : Nat) (hp : p < L) : fx_P g mX1_stateOf 0 0 [.ref e, .int (nI p)] h (.int (fa p)) := by
  obtain ⟨h1, h2, h3, h4, h5, h6⟩ := id E
  refine fx_Met.of rfl (Nat.le_of_ble_eq_true rfl) ?_
  refine fx_iloadn dX1_stateOf_0 rfl ?_
  refine fx_if_lt 22 dX1_stateOf_1 (by decide) (fun c1 => absurd c1 (nI_pos (by omega))) (fun c1 => ?_)
  refine fx_iloadn dX1_stateOf_4 rfl ?_
  refine fx_aloadn dX1_stateOf_5 rfl ?_
  refine fx_get dX1_stateOf_6 ffX1_27 (by assumption) rfl ?_
  refine fx_alenI dX1_stateOf_9 (by assumption) (by decide) ?_
  refine fx_icmp_ge 22 dX1_stateOf_10 (by decide) (fun c10 => absurd c10 (nI_ge hp (by omega))) (fun c10 => ?_)
  refine fx_aloadn dX1_stateOf_13 rfl ?_
  refine fx_get dX1_stateOf_14 ffX1_27 (by assumption) rfl ?_
  refine fx_iloadn dX1_stateOf_17 rfl ?_
  refine fx_iald dX1_stateOf_18 (by assumption) (vp_in_nI hp (by omega)) ?_
  refine fx_goto 23 dX1_stateOf_19 (by decide) ?_
  refine fx_iret dX1_stateOf_23 rfl ?_
  exact ⟨by rw [nI_clamp (by omega)], rfl⟩
theorem nI_m1 (n : Nat) (h : n < 2 ^ 31) : ¬ nI n = -1 := fun e => by
  have := nI_pos h
  rw [e] at this
  exact this (by decide)
theorem p_en_pairOf {g : fx_G} {h : fx_H} {e pr pg pt pa pl rows L : Nat} {fr fg ft fa fl : Nat → Int32} (E : en h e pr pg pt pa pl fr fg ft fa fl rows L) {b : Nat → Nat} (B : enb b fr fg) (x y : Nat) (hx : x ≤ 256) : fx_P g mX1_pairOf 0 0 [.ref e, .int (nI x), .int (nI y)] h (.int (if ml_ps b x = -1 then -1 else nI (ml_P b x y))) := by
  have hrk := rk_le b x
  obtain ⟨h1, h2, h3, h4, h5, h6⟩ := id E
  refine fx_Met.of rfl (Nat.le_of_ble_eq_true rfl) ?_
  by_cases hp : ml_ps b x = -1
  · skip
    refine fx_iloadn dX1_pairOf_0 rfl ?_
    refine fx_if_lt 21 dX1_pairOf_1 (by decide) (fun c1 => absurd c1 (nI_pos (by omega))) (fun c1 => ?_)
    refine fx_iloadn dX1_pairOf_4 rfl ?_
    refine fx_sipush (nI 257) dX1_pairOf_5 (by decide) ?_
    refine fx_icmp_ge 21 dX1_pairOf_8 (by decide) (fun c8 => absurd c8 (nI_ge (show x < 257 by omega) (by decide))) (fun c8 => ?_)
    refine fx_aloadn dX1_pairOf_11 rfl ?_
    refine fx_get dX1_pairOf_12 ffX1_13 (by assumption) rfl ?_
    refine fx_iloadn dX1_pairOf_15 rfl ?_
    refine fx_iald dX1_pairOf_16 h2 (vp_in_nI (show x < 257 by omega) (by decide)) ?_
    rw [nI_clamp (by omega), B.1 x hx]
    refine fx_iconst (-1) dX1_pairOf_17 (by decide) ?_
    refine fx_icmp_ne 25 dX1_pairOf_18 (by decide) (fun c18 => absurd (by rw [if_pos hp]) c18) (fun c18 => ?_)
    refine fx_iconst (-1) dX1_pairOf_21 (by decide) ?_
    refine fx_goto 37 dX1_pairOf_22 (by decide) ?_
    refine fx_iret dX1_pairOf_37 rfl ?_
    exact ⟨by rw [if_pos hp], rfl⟩
  · skip
    refine fx_iloadn dX1_pairOf_0 rfl ?_
    refine fx_if_lt 21 dX1_pairOf_1 (by decide) (fun c1 => absurd c1 (nI_pos (by omega))) (fun c1 => ?_)
    refine fx_iloadn dX1_pairOf_4 rfl ?_
    refine fx_sipush (nI 257) dX1_pairOf_5 (by decide) ?_
    refine fx_icmp_ge 21 dX1_pairOf_8 (by decide) (fun c8 => absurd c8 (nI_ge (show x < 257 by omega) (by decide))) (fun c8 => ?_)
    refine fx_aloadn dX1_pairOf_11 rfl ?_
    refine fx_get dX1_pairOf_12 ffX1_13 (by assumption) rfl ?_
    refine fx_iloadn dX1_pairOf_15 rfl ?_
    refine fx_iald dX1_pairOf_16 h2 (vp_in_nI (show x < 257 by omega) (by decide)) ?_
    rw [nI_clamp (by omega), B.1 x hx]
    refine fx_iconst (-1) dX1_pairOf_17 (by decide) ?_
    refine fx_icmp_ne 25 dX1_pairOf_18 (by decide) (fun c18 => ?_) (fun c18 => absurd c18 (by rw [if_neg hp]; exact nI_m1 _ (by omega)))
    refine fx_sipush (nI 256) dX1_pairOf_25 (by decide) ?_
    refine fx_aloadn dX1_pairOf_28 rfl ?_
    refine fx_get dX1_pairOf_29 ffX1_13 (by assumption) rfl ?_
    refine fx_iloadn dX1_pairOf_32 rfl ?_
    refine fx_iald dX1_pairOf_33 h2 (vp_in_nI (show x < 257 by omega) (by decide)) ?_
    rw [nI_clamp (by omega), B.1 x hx]
    rw [if_neg hp]
    refine fx_imul dX1_pairOf_34 ?_
    refine fx_iloadn dX1_pairOf_35 rfl ?_
    refine fx_iadd dX1_pairOf_36 ?_
    refine fx_iret dX1_pairOf_37 rfl ?_
    exact ⟨by rw [if_neg hp, pk_mul, nI_add]; rfl, rfl⟩
/-- the answer of a pair is known to be z -/
def kn (b : Nat → Nat) (fa : Nat → Int32) (x y z : Nat) : Prop := (ml_ps b x = -1 ∧ z = y) ∨ (ml_ps b x ≠ -1 ∧ fa (ml_P b x y) = nI (z + 1))
/-- .. or it isn't known yet -/
def uk (b : Nat → Nat) (fa : Nat → Int32) (x y : Nat) : Prop := ml_ps b x ≠ -1 ∧ (fa (ml_P b x y) = 0 ∨ fa (ml_P b x y) = -1)

theorem p_en_endOfK {g : fx_G} {h : fx_H} {e pr pg pt pa pl rows L : Nat} {fr fg ft fa fl : Nat → Int32} (E : en h e pr pg pt pa pl fr fg ft fa fl rows L) {b : Nat → Nat} (B : enb b fr fg) (hL : L ≤ 65792) (hrL : 256 * ml_rk b 257 ≤ L) (x y z : Nat) (hx : x ≤ 256) (hy : y < 256) (hzl : z < 256) (hk : kn b fa x y z) : fx_P g mX1_endOf 1 22 [.ref e, .int (nI x), .int (nI y)] h (.int (nI z)) := by
  have h1 := E.1
  refine fx_Met.of rfl (Nat.le_of_ble_eq_true rfl) ?_
  rcases hk with ⟨hp, hzy⟩ | ⟨hp, hz⟩
  · rw [hzy]
    refine fx_aloadn dX1_endOf_0 rfl ?_
    refine fx_iloadn dX1_endOf_1 rfl ?_
    refine fx_iloadn dX1_endOf_2 rfl ?_
    refine fx_callVp dX1_endOf_3 vX1_pairOf kkX1_103 rfl rfl (by assumption) (p_en_pairOf E B x y hx) rfl (by decide) (by decide) rfl (Nat.le_of_ble_eq_true rfl) ?_
    rw [if_pos hp]
    refine fx_istoren dX1_endOf_6 (by decide) ?_
    refine fx_iloadn dX1_endOf_7 rfl ?_
    refine fx_iconst (-1) dX1_endOf_8 (by decide) ?_
    refine fx_icmp_ne 14 dX1_endOf_9 (by decide) (fun c9 => absurd (rfl) c9) (fun c9 => ?_)
    refine fx_iloadn dX1_endOf_12 rfl ?_
    refine fx_iret dX1_endOf_13 rfl ?_
    exact ⟨rfl, rfl⟩
  · skip
    refine fx_aloadn dX1_endOf_0 rfl ?_
    refine fx_iloadn dX1_endOf_1 rfl ?_
    refine fx_iloadn dX1_endOf_2 rfl ?_
    refine fx_callVp dX1_endOf_3 vX1_pairOf kkX1_103 rfl rfl (by assumption) (p_en_pairOf E B x y hx) rfl (by decide) (by decide) rfl (Nat.le_of_ble_eq_true rfl) ?_
    rw [if_neg hp]
    refine fx_istoren dX1_endOf_6 (by decide) ?_
    refine fx_iloadn dX1_endOf_7 rfl ?_
    refine fx_iconst (-1) dX1_endOf_8 (by decide) ?_
    refine fx_icmp_ne 14 dX1_endOf_9 (by decide) (fun c9 => ?_) (fun c9 => absurd c9 (nI_m1 _ (by have := mP_lt (b := b) hx hp hy; omega)))
    refine fx_aloadn dX1_endOf_14 rfl ?_
    refine fx_iloadn dX1_endOf_15 rfl ?_
    refine fx_callVp dX1_endOf_16 vX1_stateOf kkX1_44 rfl rfl (by assumption) (p_en_stateOf E hL _ (Nat.lt_of_lt_of_le (mP_lt hx hp hy) hrL)) rfl (by decide) (by decide) rfl (Nat.le_of_ble_eq_true rfl) ?_
    refine fx_if_le 32 dX1_endOf_19 (by decide) (fun c19 => absurd c19 (by rw [hz]; exact nI_nle (by omega) (by omega))) (fun c19 => ?_)
    refine fx_aloadn dX1_endOf_22 rfl ?_
    refine fx_iloadn dX1_endOf_23 rfl ?_
    refine fx_callVp dX1_endOf_24 vX1_stateOf kkX1_44 rfl rfl (by assumption) (p_en_stateOf E hL _ (Nat.lt_of_lt_of_le (mP_lt hx hp hy) hrL)) rfl (by decide) (by decide) rfl (Nat.le_of_ble_eq_true rfl) ?_
    refine fx_iconst (nI 1) dX1_endOf_27 (by decide) ?_
    refine fx_isub dX1_endOf_28 ?_
    refine fx_goto 33 dX1_endOf_29 (by decide) ?_
    refine fx_iret dX1_endOf_33 rfl ?_
    exact ⟨by rw [hz, pk_sub (by omega)]; rfl, rfl⟩
theorem p_en_endOfU {g : fx_G} {h : fx_H} {e pr pg pt pa pl rows L : Nat} {fr fg ft fa fl : Nat → Int32} (E : en h e pr pg pt pa pl fr fg ft fa fl rows L) {b : Nat → Nat} (B : enb b fr fg) (hL : L ≤ 65792) (hrL : 256 * ml_rk b 257 ≤ L) (x y : Nat) (hx : x ≤ 256) (hy : y < 256) (hk : uk b fa x y) : fx_P g mX1_endOf 1 22 [.ref e, .int (nI x), .int (nI y)] h (.int (-1)) := by
  have h1 := E.1
  obtain ⟨hp, hu⟩ := hk
  refine fx_Met.of rfl (Nat.le_of_ble_eq_true rfl) ?_
  refine fx_aloadn dX1_endOf_0 rfl ?_
  refine fx_iloadn dX1_endOf_1 rfl ?_
  refine fx_iloadn dX1_endOf_2 rfl ?_
  refine fx_callVp dX1_endOf_3 vX1_pairOf kkX1_103 rfl rfl (by assumption) (p_en_pairOf E B x y hx) rfl (by decide) (by decide) rfl (Nat.le_of_ble_eq_true rfl) ?_
  rw [if_neg hp]
  refine fx_istoren dX1_endOf_6 (by decide) ?_
  refine fx_iloadn dX1_endOf_7 rfl ?_
  refine fx_iconst (-1) dX1_endOf_8 (by decide) ?_
  refine fx_icmp_ne 14 dX1_endOf_9 (by decide) (fun c9 => ?_) (fun c9 => absurd c9 (nI_m1 _ (by have := mP_lt (b := b) hx hp hy; omega)))
  refine fx_aloadn dX1_endOf_14 rfl ?_
  refine fx_iloadn dX1_endOf_15 rfl ?_
  refine fx_callVp dX1_endOf_16 vX1_stateOf kkX1_44 rfl rfl (by assumption) (p_en_stateOf E hL _ (Nat.lt_of_lt_of_le (mP_lt hx hp hy) hrL)) rfl (by decide) (by decide) rfl (Nat.le_of_ble_eq_true rfl) ?_
  refine fx_if_le 32 dX1_endOf_19 (by decide) (fun c19 => ?_) (fun c19 => absurd (by rcases hu with q | q <;> rw [q] <;> decide) c19)
  refine fx_iconst (-1) dX1_endOf_32 (by decide) ?_
  refine fx_iret dX1_endOf_33 rfl ?_
  exact ⟨rfl, rfl⟩
theorem c_en_know {g : fx_G} {h : fx_H} {e pr pg pt pa pl rows L : Nat} {fr fg ft fa fl : Nat → Int32} (E : en h e pr pg pt pa pl fr fg ft fa fl rows L) (N : eap pr pg pt pa pl) (hL : L ≤ 65792) (p z : Nat) (hp : p < L) : fx_Met g mX1_know 0 0 [.ref e, .int (nI p), .int (nI z)] h 0 0 (fun r h' => r = some (.int (-1)) ∧ en h' e pr pg pt pa pl fr fg ft (upd fa p (nI (z + 1))) fl rows L ∧ kp (fun x => x = pa) h h') := by
  obtain ⟨h1, h2, h3, h4, h5, h6⟩ := id E
  refine fx_Met.of rfl (Nat.le_of_ble_eq_true rfl) ?_
  refine fx_iloadn dX1_know_0 rfl ?_
  refine fx_if_lt 22 dX1_know_1 (by decide) (fun c1 => absurd c1 (nI_pos (by omega))) (fun c1 => ?_)
  refine fx_iloadn dX1_know_4 rfl ?_
  refine fx_aloadn dX1_know_5 rfl ?_
  refine fx_get dX1_know_6 ffX1_27 (by assumption) rfl ?_
  refine fx_alenI dX1_know_9 (by assumption) (by decide) ?_
  refine fx_icmp_ge 22 dX1_know_10 (by decide) (fun c10 => absurd c10 (nI_ge hp (by omega))) (fun c10 => ?_)
  refine fx_aloadn dX1_know_13 rfl ?_
  refine fx_get dX1_know_14 ffX1_27 (by assumption) rfl ?_
  refine fx_iloadn dX1_know_17 rfl ?_
  refine fx_iloadn dX1_know_18 rfl ?_
  refine fx_iconst (nI 1) dX1_know_19 (by decide) ?_
  refine fx_iadd dX1_know_20 ?_
  rw [nI_add]
  refine fx_iastV dX1_know_21 (by assumption) (vp_in_nI hp (by omega)) (fun h1' e1 o1 => ?_)
  rw [nI_clamp (by omega)] at e1
  refine fx_iconst (-1) dX1_know_22 (by decide) ?_
  refine fx_iret dX1_know_23 rfl ?_
  exact ⟨rfl, E.seta N e1 o1, kp.put kp.rf o1 (Or.inl rfl)⟩
theorem c_en_await {g : fx_G} {h : fx_H} {e pr pg pt pa pl rows L : Nat} {fr fg ft fa fl : Nat → Int32} (E : en h e pr pg pt pa pl fr fg ft fa fl rows L) (N : eap pr pg pt pa pl) (hL : L ≤ 65792) (p dp : Nat) (hp : p < L) (hd : dp < L) : fx_Met g mX1_awaitAnswer 0 0 [.ref e, .int (nI p), .int (nI dp)] h 0 0 (fun r h' => r = some (.int (nI (dp + 1))) ∧ en h' e pr pg pt pa pl fr fg ft (upd fa p (-1)) (upd fl dp (nI p)) rows L ∧ kp (fun x => x = pa ∨ x = pl) h h') := by
  obtain ⟨h1, h2, h3, h4, h5, h6⟩ := id E
  refine fx_Met.of rfl (Nat.le_of_ble_eq_true rfl) ?_
  refine fx_iloadn dX1_awaitAnswer_0 rfl ?_
  refine fx_if_lt 40 dX1_awaitAnswer_1 (by decide) (fun c1 => absurd c1 (nI_pos (by omega))) (fun c1 => ?_)
  refine fx_iloadn dX1_awaitAnswer_4 rfl ?_
  refine fx_aloadn dX1_awaitAnswer_5 rfl ?_
  refine fx_get dX1_awaitAnswer_6 ffX1_27 (by assumption) rfl ?_
  refine fx_alenI dX1_awaitAnswer_9 (by assumption) (by decide) ?_
  refine fx_icmp_ge 40 dX1_awaitAnswer_10 (by decide) (fun c10 => absurd c10 (nI_ge hp (by omega))) (fun c10 => ?_)
  refine fx_iloadn dX1_awaitAnswer_13 rfl ?_
  refine fx_if_lt 40 dX1_awaitAnswer_14 (by decide) (fun c14 => absurd c14 (nI_pos (by omega))) (fun c14 => ?_)
  refine fx_iloadn dX1_awaitAnswer_17 rfl ?_
  refine fx_aloadn dX1_awaitAnswer_18 rfl ?_
  refine fx_get dX1_awaitAnswer_19 ffX1_30 (by assumption) rfl ?_
  refine fx_alenI dX1_awaitAnswer_22 (by assumption) (by decide) ?_
  refine fx_icmp_ge 40 dX1_awaitAnswer_23 (by decide) (fun c23 => absurd c23 (nI_ge hd (by omega))) (fun c23 => ?_)
  refine fx_aloadn dX1_awaitAnswer_26 rfl ?_
  refine fx_get dX1_awaitAnswer_27 ffX1_27 (by assumption) rfl ?_
  refine fx_iloadn dX1_awaitAnswer_30 rfl ?_
  refine fx_iconst (-1) dX1_awaitAnswer_31 (by decide) ?_
  refine fx_iastV dX1_awaitAnswer_32 (by assumption) (vp_in_nI hp (by omega)) (fun h1' e1 o1 => ?_)
  rw [nI_clamp (by omega)] at e1
  have E1 := E.seta N e1 o1
  obtain ⟨g1, g2, g3, g4, g5, g6⟩ := id E1
  refine fx_aloadn dX1_awaitAnswer_33 rfl ?_
  refine fx_get dX1_awaitAnswer_34 ffX1_30 (by assumption) rfl ?_
  refine fx_iloadn dX1_awaitAnswer_37 rfl ?_
  refine fx_iloadn dX1_awaitAnswer_38 rfl ?_
  refine fx_iastV dX1_awaitAnswer_39 (by assumption) (vp_in_nI hd (by omega)) (fun h2' e2 o2 => ?_)
  rw [nI_clamp (by omega)] at e2
  refine fx_iloadn dX1_awaitAnswer_40 rfl ?_
  refine fx_iconst (nI 1) dX1_awaitAnswer_41 (by decide) ?_
  refine fx_iadd dX1_awaitAnswer_42 ?_
  refine fx_iret dX1_awaitAnswer_43 rfl ?_
  exact ⟨by rw [nI_add], E1.setl N e2 o2, kp.put (kp.put kp.rf o1 (Or.inl (Or.inl rfl))) o2 (Or.inl (Or.inr rfl))⟩
theorem c_en_answerAsK {g : fx_G} {h : fx_H} {e pr pg pt pa pl rows L : Nat} {fr fg ft fa fl : Nat → Int32} (E : en h e pr pg pt pa pl fr fg ft fa fl rows L) {b : Nat → Nat} (B : enb b fr fg) (hL : L ≤ 65792) (hrL : 256 * ml_rk b 257 ≤ L) (N : eap pr pg pt pa pl) (p x y z : Nat) (hp : p < L) (hx : x ≤ 256) (hy : y < 256) (hzl : z < 256) (hk : kn b fa x y z) : fx_Met g mX1_answerAs 2 45 [.ref e, .int (nI p), .int (nI x), .int (nI y)] h 0 0 (fun r h' => r = some (.int (-1)) ∧ en h' e pr pg pt pa pl fr fg ft (upd fa p (nI (z + 1))) fl rows L ∧ kp (fun x => x = pa) h h') := by
  have h1 := E.1
  refine fx_Met.of rfl (Nat.le_of_ble_eq_true rfl) ?_
  refine fx_aloadn dX1_answerAs_0 rfl ?_
  refine fx_iloadn dX1_answerAs_1 rfl ?_
  refine fx_iloadn dX1_answerAs_2 rfl ?_
  refine fx_callVp dX1_answerAs_3 vX1_endOf kkX1_100 rfl rfl (by assumption) (p_en_endOfK E B hL hrL x y z hx hy hzl hk) rfl (by decide) (by decide) rfl (Nat.le_of_ble_eq_true rfl) ?_
  refine fx_istore dX1_answerAs_6 (by decide) ?_
  refine fx_iload dX1_answerAs_8 rfl ?_
  refine fx_iconst (-1) dX1_answerAs_10 (by decide) ?_
  refine fx_icmp_ne 23 dX1_answerAs_11 (by decide) (fun c11 => ?_) (fun c11 => absurd c11 (nI_m1 _ (by omega)))
  refine fx_aloadn dX1_answerAs_23 rfl ?_
  refine fx_iloadn dX1_answerAs_24 rfl ?_
  refine fx_iload dX1_answerAs_25 rfl ?_
  refine fx_callV dX1_answerAs_27 vX1_know kkX1_93 rfl rfl h1 (c_en_know E N hL p z hp) rfl (by decide) (by decide) (Nat.zero_le _) (Nat.zero_le _) rfl (Nat.le_of_ble_eq_true rfl) (fun r h2 hk2 => ?_)
  obtain ⟨rfl, hk3, hk4⟩ := hk2
  refine fx_iret dX1_answerAs_30 rfl ?_
  exact ⟨rfl, hk3, hk4⟩
theorem c_en_answerAsU {g : fx_G} {h : fx_H} {e pr pg pt pa pl rows L : Nat} {fr fg ft fa fl : Nat → Int32} (E : en h e pr pg pt pa pl fr fg ft fa fl rows L) {b : Nat → Nat} (B : enb b fr fg) (hL : L ≤ 65792) (hrL : 256 * ml_rk b 257 ≤ L) (p x y : Nat) (hx : x ≤ 256) (hy : y < 256) (hk : uk b fa x y) : fx_P g mX1_answerAs 2 45 [.ref e, .int (nI p), .int (nI x), .int (nI y)] h (.int (nI (ml_P b x y))) := by
  have h1 := E.1
  refine fx_Met.of rfl (Nat.le_of_ble_eq_true rfl) ?_
  refine fx_aloadn dX1_answerAs_0 rfl ?_
  refine fx_iloadn dX1_answerAs_1 rfl ?_
  refine fx_iloadn dX1_answerAs_2 rfl ?_
  refine fx_callVp dX1_answerAs_3 vX1_endOf kkX1_100 rfl rfl (by assumption) (p_en_endOfU E B hL hrL x y hx hy hk) rfl (by decide) (by decide) rfl (Nat.le_of_ble_eq_true rfl) ?_
  refine fx_istore dX1_answerAs_6 (by decide) ?_
  refine fx_iload dX1_answerAs_8 rfl ?_
  refine fx_iconst (-1) dX1_answerAs_10 (by decide) ?_
  refine fx_icmp_ne 23 dX1_answerAs_11 (by decide) (fun c11 => absurd (rfl) c11) (fun c11 => ?_)
  refine fx_aloadn dX1_answerAs_14 rfl ?_
  refine fx_iloadn dX1_answerAs_15 rfl ?_
  refine fx_iloadn dX1_answerAs_16 rfl ?_
  refine fx_callVp dX1_answerAs_17 vX1_pairOf kkX1_103 rfl rfl (by assumption) (p_en_pairOf E B x y hx) rfl (by decide) (by decide) rfl (Nat.le_of_ble_eq_true rfl) ?_
  refine fx_goto 30 dX1_answerAs_20 (by decide) ?_
  refine fx_iret dX1_answerAs_30 rfl ?_
  exact ⟨by rw [if_neg hk.1], rfl⟩
/-- what stands in the table of answers: nothing, that it is awaited, or the answer -/
def eok (b : Nat → Nat) (fa : Nat → Int32) : Prop := ∀ x y, x ≤ 256 → y < 256 → ml_ps b x ≠ -1 → fa (ml_P b x y) = 0 ∨ fa (ml_P b x y) = -1 ∨ ∃ z, z < 256 ∧ fa (ml_P b x y) = nI (z + 1) ∧ ∃ n, ml_An b n x y = z + 1
theorem eok.get {b : Nat → Nat} {fa : Nat → Int32} (K : eok b fa) {x y : Nat} (hx : x ≤ 256) (hy : y < 256) : uk b fa x y ∨ ∃ z, z < 256 ∧ kn b fa x y z ∧ ∃ n, ml_An b n x y = z + 1 := by
  by_cases e : ml_ps b x = -1
  · exact Or.inr ⟨y, hy, Or.inl ⟨e, rfl⟩, 0, an_t (tt_nops e) 0⟩
  · rcases K x y hx hy e with q | q | ⟨z, q1, q2, q3⟩
    · exact Or.inl ⟨e, Or.inl q⟩
    · exact Or.inl ⟨e, Or.inr q⟩
    · exact Or.inr ⟨z, q1, Or.inr ⟨e, q2⟩, q3⟩
/-- the ends that answer() may come to -/
def anK (b : Nat → Nat) (h : fx_H) (e pr pg pt pa pl : Nat) (fr fg ft fa fl : Nat → Int32) (rows L x y : Nat) : Option Value → fx_H → Prop := fun r h' =>
  (r = some (.int (-1)) ∧ ∃ z, z < 256 ∧ (∃ n, ml_An b n x y = z + 1) ∧ en h' e pr pg pt pa pl fr fg ft (upd fa (ml_P b x y) (nI (z + 1))) fl rows L ∧ kp (fun x => x = pa) h h') ∨
  (∃ x' y', x' ≤ 256 ∧ y' < 256 ∧ uk b fa x' y' ∧ r = some (.int (nI (ml_P b x' y'))) ∧ h' = h ∧ ml_nd b x y x' y')

theorem l_en_answer {g : fx_G} {h : fx_H} {e pr pg pt pa pl rows L : Nat} {fr fg ft fa fl : Nat → Int32} (E : en h e pr pg pt pa pl fr fg ft fa fl rows L) {b : Nat → Nat} (B : enb b fr fg) (hL : L ≤ 65792) (hrL : 256 * ml_rk b 257 ≤ L) (N : eap pr pg pt pa pl) (T : ent b ft) (K : eok b fa) {S : Nat → Prop} {a nw : Nat} {z9 : Int32} (H : fo S h a b nw z9) (V : ml_v b nw) (F5 : ml_f5 b) (F3 : ml_F3a b) (x y : Nat) (hx : x ≤ 256) (hy : y < 256) (hp : ml_ps b x ≠ -1) (hok : ml_ok b (ml_tt b x y)) (hlig : ml_tt b x y ≠ -1 → ¬ 128 ≤ ml_o b (ml_tt b x y) → ml_lig (ml_o b (ml_tt b x y))) : fx_Y g mX1_answer 3 69 (anK b h e pr pg pt pa pl fr fg ft fa fl rows L x y) (fun _ _ => False) 68 [(0, .ref e), (1, .ref a), (2, .int (nI (ml_P b x y))), (4, .int (nI x)), (5, .int (nI y)), (6, .int (ml_tt b x y)), (7, .int (nI (ml_o b (ml_tt b x y)))), (8, .int (nI (ml_r b (ml_tt b x y))))] [] h 0 0 := by
  have h1 := E.1
  obtain ⟨hff, hf1⟩ := H.at
  have hpL : ml_P b x y < L := Nat.lt_of_lt_of_le (mP_lt hx hp hy) hrL
  have qo := ml_o_lt (b := b) (ml_tt b x y)
  have qr := ml_r_lt (b := b) (ml_tt b x y)
  by_cases ht : ml_tt b x y = -1
  · skip
    refine fx_iload dX1_answer_68 rfl ?_
    refine fx_if_lt 95 dX1_answer_70 (by decide) (fun c70 => ?_) (fun c70 => absurd (by rw [ht]; decide) c70)
    refine fx_aloadn dX1_answer_95 rfl ?_
    refine fx_iloadn dX1_answer_96 rfl ?_
    refine fx_iload dX1_answer_97 rfl ?_
    refine fx_callV dX1_answer_99 vX1_know kkX1_93 rfl rfl h1 (c_en_know E N hL (ml_P b x y) y hpL) rfl (by decide) (by decide) (Nat.zero_le _) (Nat.zero_le _) rfl (Nat.le_of_ble_eq_true rfl) (fun r h2 hk2 => ?_)
    obtain ⟨rfl, hk3, hk4⟩ := hk2
    refine fx_iret dX1_answer_102 rfl ?_
    exact Or.inl ⟨rfl, y, hy, ⟨0, an_t ht 0⟩, hk3, hk4⟩
  have hneg : ¬ ml_tt b x y < 0 := by
    rcases hok with q | ⟨j, hj, q⟩
    · exact absurd q ht
    · rw [q]
      exact nI_pos (by have := V.rl (r := 6) (by decide); omega)
  by_cases hk : 128 ≤ ml_o b (ml_tt b x y)
  · skip
    refine fx_iload dX1_answer_68 rfl ?_
    refine fx_if_lt 95 dX1_answer_70 (by decide) (fun c70 => absurd c70 (hneg)) (fun c70 => ?_)
    refine fx_aloadn dX1_answer_73 rfl ?_
    refine fx_iload dX1_answer_74 rfl ?_
    refine fx_callVp dX1_answer_76 vX3_isKern kkX1_90 rfl rfl (by assumption) (p_fo_isKern H V _) rfl (by decide) (by decide) rfl (Nat.le_of_ble_eq_true rfl) ?_
    refine fx_if_ne 95 dX1_answer_79 (by decide) (fun c79 => ?_) (fun c79 => absurd c79 (bI_n0.mpr hk))
    refine fx_aloadn dX1_answer_95 rfl ?_
    refine fx_iloadn dX1_answer_96 rfl ?_
    refine fx_iload dX1_answer_97 rfl ?_
    refine fx_callV dX1_answer_99 vX1_know kkX1_93 rfl rfl h1 (c_en_know E N hL (ml_P b x y) y hpL) rfl (by decide) (by decide) (Nat.zero_le _) (Nat.zero_le _) rfl (Nat.le_of_ble_eq_true rfl) (fun r h2 hk2 => ?_)
    obtain ⟨rfl, hk3, hk4⟩ := hk2
    refine fx_iret dX1_answer_102 rfl ?_
    exact Or.inl ⟨rfl, y, hy, ⟨1, by unfold ml_An; rw [if_neg ht, if_pos (Or.inl hk)]⟩, hk3, hk4⟩
  have hlg := hlig ht hk
  unfold ml_lig at hlg
  by_cases h5 : ml_o b (ml_tt b x y) = 5
  · skip
    refine fx_iload dX1_answer_68 rfl ?_
    refine fx_if_lt 95 dX1_answer_70 (by decide) (fun c70 => absurd c70 (hneg)) (fun c70 => ?_)
    refine fx_aloadn dX1_answer_73 rfl ?_
    refine fx_iload dX1_answer_74 rfl ?_
    refine fx_callVp dX1_answer_76 vX3_isKern kkX1_90 rfl rfl (by assumption) (p_fo_isKern H V _) rfl (by decide) (by decide) rfl (Nat.le_of_ble_eq_true rfl) ?_
    refine fx_if_ne 95 dX1_answer_79 (by decide) (fun c79 => absurd (bI_0.mpr hk) c79) (fun c79 => ?_)
    refine fx_iload dX1_answer_82 rfl ?_
    refine fx_iconst (nI 5) dX1_answer_84 (by decide) ?_
    refine fx_icmp_eq 95 dX1_answer_85 (by decide) (fun c85 => ?_) (fun c85 => absurd (by rw [h5]) c85)
    refine fx_aloadn dX1_answer_95 rfl ?_
    refine fx_iloadn dX1_answer_96 rfl ?_
    refine fx_iload dX1_answer_97 rfl ?_
    refine fx_callV dX1_answer_99 vX1_know kkX1_93 rfl rfl h1 (c_en_know E N hL (ml_P b x y) y hpL) rfl (by decide) (by decide) (Nat.zero_le _) (Nat.zero_le _) rfl (Nat.le_of_ble_eq_true rfl) (fun r h2 hk2 => ?_)
    obtain ⟨rfl, hk3, hk4⟩ := hk2
    refine fx_iret dX1_answer_102 rfl ?_
    exact Or.inl ⟨rfl, y, hy, ⟨1, by unfold ml_An; rw [if_neg ht, if_pos (Or.inr (Or.inl h5))]⟩, hk3, hk4⟩
  by_cases h11 : ml_o b (ml_tt b x y) = 11
  · skip
    refine fx_iload dX1_answer_68 rfl ?_
    refine fx_if_lt 95 dX1_answer_70 (by decide) (fun c70 => absurd c70 (hneg)) (fun c70 => ?_)
    refine fx_aloadn dX1_answer_73 rfl ?_
    refine fx_iload dX1_answer_74 rfl ?_
    refine fx_callVp dX1_answer_76 vX3_isKern kkX1_90 rfl rfl (by assumption) (p_fo_isKern H V _) rfl (by decide) (by decide) rfl (Nat.le_of_ble_eq_true rfl) ?_
    refine fx_if_ne 95 dX1_answer_79 (by decide) (fun c79 => absurd (bI_0.mpr hk) c79) (fun c79 => ?_)
    refine fx_iload dX1_answer_82 rfl ?_
    refine fx_iconst (nI 5) dX1_answer_84 (by decide) ?_
    refine fx_icmp_eq 95 dX1_answer_85 (by decide) (fun c85 => absurd c85 (fun q => absurd ((nI_eq (by omega) (by decide)).mp q) (by omega))) (fun c85 => ?_)
    refine fx_iload dX1_answer_88 rfl ?_
    refine fx_bipush (nI 11) dX1_answer_90 (by decide) ?_
    refine fx_icmp_ne 103 dX1_answer_92 (by decide) (fun c92 => absurd (by rw [h11]) c92) (fun c92 => ?_)
    refine fx_aloadn dX1_answer_95 rfl ?_
    refine fx_iloadn dX1_answer_96 rfl ?_
    refine fx_iload dX1_answer_97 rfl ?_
    refine fx_callV dX1_answer_99 vX1_know kkX1_93 rfl rfl h1 (c_en_know E N hL (ml_P b x y) y hpL) rfl (by decide) (by decide) (Nat.zero_le _) (Nat.zero_le _) rfl (Nat.le_of_ble_eq_true rfl) (fun r h2 hk2 => ?_)
    obtain ⟨rfl, hk3, hk4⟩ := hk2
    refine fx_iret dX1_answer_102 rfl ?_
    exact Or.inl ⟨rfl, y, hy, ⟨1, by unfold ml_An; rw [if_neg ht, if_pos (Or.inr (Or.inr h11))]⟩, hk3, hk4⟩
  rcases (show ml_o b (ml_tt b x y) = 0 ∨ ml_o b (ml_tt b x y) = 6 ∨ ml_o b (ml_tt b x y) = 1 ∨ ml_o b (ml_tt b x y) = 7 ∨ ml_o b (ml_tt b x y) = 2 ∨ ml_o b (ml_tt b x y) = 3 by omega) with ho | ho | ho | ho | ho | ho
  · skip
    refine fx_iload dX1_answer_68 rfl ?_
    refine fx_if_lt 95 dX1_answer_70 (by decide) (fun c70 => absurd c70 (hneg)) (fun c70 => ?_)
    refine fx_aloadn dX1_answer_73 rfl ?_
    refine fx_iload dX1_answer_74 rfl ?_
    refine fx_callVp dX1_answer_76 vX3_isKern kkX1_90 rfl rfl (by assumption) (p_fo_isKern H V _) rfl (by decide) (by decide) rfl (Nat.le_of_ble_eq_true rfl) ?_
    refine fx_if_ne 95 dX1_answer_79 (by decide) (fun c79 => absurd (bI_0.mpr hk) c79) (fun c79 => ?_)
    refine fx_iload dX1_answer_82 rfl ?_
    refine fx_iconst (nI 5) dX1_answer_84 (by decide) ?_
    refine fx_icmp_eq 95 dX1_answer_85 (by decide) (fun c85 => absurd c85 (fun q => absurd ((nI_eq (by omega) (by decide)).mp q) (by omega))) (fun c85 => ?_)
    refine fx_iload dX1_answer_88 rfl ?_
    refine fx_bipush (nI 11) dX1_answer_90 (by decide) ?_
    refine fx_icmp_ne 103 dX1_answer_92 (by decide) (fun c92 => ?_) (fun c92 => absurd c92 (fun q => absurd ((nI_eq (by omega) (by decide)).mp q) (by omega)))
    refine fx_iload dX1_answer_103 rfl ?_
    rw [ho]
    refine fx_tswOut 205 dX1_answer_105 (by decide) (by decide) ?_
    refine fx_aloadn dX1_answer_205 rfl ?_
    refine fx_iloadn dX1_answer_206 rfl ?_
    refine fx_iload dX1_answer_207 rfl ?_
    refine fx_callV dX1_answer_209 vX1_know kkX1_93 rfl rfl h1 (c_en_know E N hL (ml_P b x y) (ml_r b (ml_tt b x y)) hpL) rfl (by decide) (by decide) (Nat.zero_le _) (Nat.zero_le _) rfl (Nat.le_of_ble_eq_true rfl) (fun r h2 hk2 => ?_)
    obtain ⟨rfl, hk3, hk4⟩ := hk2
    refine fx_iret dX1_answer_212 rfl ?_
    exact Or.inl ⟨rfl, _, qr, ⟨1, by unfold ml_An; rw [if_neg ht, if_neg (by omega), if_pos (by omega)]⟩, hk3, hk4⟩
  · skip
    refine fx_iload dX1_answer_68 rfl ?_
    refine fx_if_lt 95 dX1_answer_70 (by decide) (fun c70 => absurd c70 (hneg)) (fun c70 => ?_)
    refine fx_aloadn dX1_answer_73 rfl ?_
    refine fx_iload dX1_answer_74 rfl ?_
    refine fx_callVp dX1_answer_76 vX3_isKern kkX1_90 rfl rfl (by assumption) (p_fo_isKern H V _) rfl (by decide) (by decide) rfl (Nat.le_of_ble_eq_true rfl) ?_
    refine fx_if_ne 95 dX1_answer_79 (by decide) (fun c79 => absurd (bI_0.mpr hk) c79) (fun c79 => ?_)
    refine fx_iload dX1_answer_82 rfl ?_
    refine fx_iconst (nI 5) dX1_answer_84 (by decide) ?_
    refine fx_icmp_eq 95 dX1_answer_85 (by decide) (fun c85 => absurd c85 (fun q => absurd ((nI_eq (by omega) (by decide)).mp q) (by omega))) (fun c85 => ?_)
    refine fx_iload dX1_answer_88 rfl ?_
    refine fx_bipush (nI 11) dX1_answer_90 (by decide) ?_
    refine fx_icmp_ne 103 dX1_answer_92 (by decide) (fun c92 => ?_) (fun c92 => absurd c92 (fun q => absurd ((nI_eq (by omega) (by decide)).mp q) (by omega)))
    refine fx_iload dX1_answer_103 rfl ?_
    rw [ho]
    refine fx_tswIn 100 205 dX1_answer_105 (by decide) (by decide) rfl (by decide) ?_
    refine fx_aloadn dX1_answer_205 rfl ?_
    refine fx_iloadn dX1_answer_206 rfl ?_
    refine fx_iload dX1_answer_207 rfl ?_
    refine fx_callV dX1_answer_209 vX1_know kkX1_93 rfl rfl h1 (c_en_know E N hL (ml_P b x y) (ml_r b (ml_tt b x y)) hpL) rfl (by decide) (by decide) (Nat.zero_le _) (Nat.zero_le _) rfl (Nat.le_of_ble_eq_true rfl) (fun r h2 hk2 => ?_)
    obtain ⟨rfl, hk3, hk4⟩ := hk2
    refine fx_iret dX1_answer_212 rfl ?_
    exact Or.inl ⟨rfl, _, qr, ⟨1, by unfold ml_An; rw [if_neg ht, if_neg (by omega), if_pos (by omega)]⟩, hk3, hk4⟩
  · skip
    refine fx_iload dX1_answer_68 rfl ?_
    refine fx_if_lt 95 dX1_answer_70 (by decide) (fun c70 => absurd c70 (hneg)) (fun c70 => ?_)
    refine fx_aloadn dX1_answer_73 rfl ?_
    refine fx_iload dX1_answer_74 rfl ?_
    refine fx_callVp dX1_answer_76 vX3_isKern kkX1_90 rfl rfl (by assumption) (p_fo_isKern H V _) rfl (by decide) (by decide) rfl (Nat.le_of_ble_eq_true rfl) ?_
    refine fx_if_ne 95 dX1_answer_79 (by decide) (fun c79 => absurd (bI_0.mpr hk) c79) (fun c79 => ?_)
    refine fx_iload dX1_answer_82 rfl ?_
    refine fx_iconst (nI 5) dX1_answer_84 (by decide) ?_
    refine fx_icmp_eq 95 dX1_answer_85 (by decide) (fun c85 => absurd c85 (fun q => absurd ((nI_eq (by omega) (by decide)).mp q) (by omega))) (fun c85 => ?_)
    refine fx_iload dX1_answer_88 rfl ?_
    refine fx_bipush (nI 11) dX1_answer_90 (by decide) ?_
    refine fx_icmp_ne 103 dX1_answer_92 (by decide) (fun c92 => ?_) (fun c92 => absurd c92 (fun q => absurd ((nI_eq (by omega) (by decide)).mp q) (by omega)))
    refine fx_iload dX1_answer_103 rfl ?_
    rw [ho]
    refine fx_tswIn 43 148 dX1_answer_105 (by decide) (by decide) rfl (by decide) ?_
    rcases K.get (x := ml_r b (ml_tt b x y)) (y := y) (by omega) hy with hu | ⟨z, hzl, hkn, n9, hn9⟩
    · skip
      refine fx_aloadn dX1_answer_148 rfl ?_
      refine fx_iloadn dX1_answer_149 rfl ?_
      refine fx_iload dX1_answer_150 rfl ?_
      refine fx_iload dX1_answer_152 rfl ?_
      refine fx_callVp dX1_answer_154 vX1_answerAs kkX1_96 rfl rfl (by assumption) (c_en_answerAsU E B hL hrL _ _ y (by omega) hy hu) rfl (by decide) (by decide) rfl (Nat.le_of_ble_eq_true rfl) ?_
      refine fx_iret dX1_answer_157 rfl ?_
      refine Or.inr ⟨_, y, by omega, hy, hu, rfl, rfl, fun n hn => ?_⟩
      cases n with
      | zero => exact absurd (by unfold ml_An; rw [if_neg ht]) hn
      | succ n =>
        refine ⟨n, Nat.lt_succ_self n, ?_⟩
        unfold ml_An at hn
        rw [if_neg ht, if_neg (by omega), if_neg (by omega), if_pos (by omega)] at hn
        exact hn
    · skip
      refine fx_aloadn dX1_answer_148 rfl ?_
      refine fx_iloadn dX1_answer_149 rfl ?_
      refine fx_iload dX1_answer_150 rfl ?_
      refine fx_iload dX1_answer_152 rfl ?_
      refine fx_callV dX1_answer_154 vX1_answerAs kkX1_96 rfl rfl h1 (c_en_answerAsK E B hL hrL N (ml_P b x y) (ml_r b (ml_tt b x y)) y z hpL (by omega) hy hzl hkn) rfl (by decide) (by decide) (Nat.zero_le _) (Nat.zero_le _) rfl (Nat.le_of_ble_eq_true rfl) (fun r h2 hk2 => ?_)
      obtain ⟨rfl, hk3, hk4⟩ := hk2
      refine fx_iret dX1_answer_157 rfl ?_
      exact Or.inl ⟨rfl, z, hzl, ⟨n9 + 1, by unfold ml_An; rw [if_neg ht, if_neg (by omega), if_neg (by omega), if_pos (by omega)]; exact hn9⟩, hk3, hk4⟩
  · skip
    refine fx_iload dX1_answer_68 rfl ?_
    refine fx_if_lt 95 dX1_answer_70 (by decide) (fun c70 => absurd c70 (hneg)) (fun c70 => ?_)
    refine fx_aloadn dX1_answer_73 rfl ?_
    refine fx_iload dX1_answer_74 rfl ?_
    refine fx_callVp dX1_answer_76 vX3_isKern kkX1_90 rfl rfl (by assumption) (p_fo_isKern H V _) rfl (by decide) (by decide) rfl (Nat.le_of_ble_eq_true rfl) ?_
    refine fx_if_ne 95 dX1_answer_79 (by decide) (fun c79 => absurd (bI_0.mpr hk) c79) (fun c79 => ?_)
    refine fx_iload dX1_answer_82 rfl ?_
    refine fx_iconst (nI 5) dX1_answer_84 (by decide) ?_
    refine fx_icmp_eq 95 dX1_answer_85 (by decide) (fun c85 => absurd c85 (fun q => absurd ((nI_eq (by omega) (by decide)).mp q) (by omega))) (fun c85 => ?_)
    refine fx_iload dX1_answer_88 rfl ?_
    refine fx_bipush (nI 11) dX1_answer_90 (by decide) ?_
    refine fx_icmp_ne 103 dX1_answer_92 (by decide) (fun c92 => ?_) (fun c92 => absurd c92 (fun q => absurd ((nI_eq (by omega) (by decide)).mp q) (by omega)))
    refine fx_iload dX1_answer_103 rfl ?_
    rw [ho]
    refine fx_tswIn 43 148 dX1_answer_105 (by decide) (by decide) rfl (by decide) ?_
    rcases K.get (x := ml_r b (ml_tt b x y)) (y := y) (by omega) hy with hu | ⟨z, hzl, hkn, n9, hn9⟩
    · skip
      refine fx_aloadn dX1_answer_148 rfl ?_
      refine fx_iloadn dX1_answer_149 rfl ?_
      refine fx_iload dX1_answer_150 rfl ?_
      refine fx_iload dX1_answer_152 rfl ?_
      refine fx_callVp dX1_answer_154 vX1_answerAs kkX1_96 rfl rfl (by assumption) (c_en_answerAsU E B hL hrL _ _ y (by omega) hy hu) rfl (by decide) (by decide) rfl (Nat.le_of_ble_eq_true rfl) ?_
      refine fx_iret dX1_answer_157 rfl ?_
      refine Or.inr ⟨_, y, by omega, hy, hu, rfl, rfl, fun n hn => ?_⟩
      cases n with
      | zero => exact absurd (by unfold ml_An; rw [if_neg ht]) hn
      | succ n =>
        refine ⟨n, Nat.lt_succ_self n, ?_⟩
        unfold ml_An at hn
        rw [if_neg ht, if_neg (by omega), if_neg (by omega), if_pos (by omega)] at hn
        exact hn
    · skip
      refine fx_aloadn dX1_answer_148 rfl ?_
      refine fx_iloadn dX1_answer_149 rfl ?_
      refine fx_iload dX1_answer_150 rfl ?_
      refine fx_iload dX1_answer_152 rfl ?_
      refine fx_callV dX1_answer_154 vX1_answerAs kkX1_96 rfl rfl h1 (c_en_answerAsK E B hL hrL N (ml_P b x y) (ml_r b (ml_tt b x y)) y z hpL (by omega) hy hzl hkn) rfl (by decide) (by decide) (Nat.zero_le _) (Nat.zero_le _) rfl (Nat.le_of_ble_eq_true rfl) (fun r h2 hk2 => ?_)
      obtain ⟨rfl, hk3, hk4⟩ := hk2
      refine fx_iret dX1_answer_157 rfl ?_
      exact Or.inl ⟨rfl, z, hzl, ⟨n9 + 1, by unfold ml_An; rw [if_neg ht, if_neg (by omega), if_neg (by omega), if_pos (by omega)]; exact hn9⟩, hk3, hk4⟩
  · skip
    refine fx_iload dX1_answer_68 rfl ?_
    refine fx_if_lt 95 dX1_answer_70 (by decide) (fun c70 => absurd c70 (hneg)) (fun c70 => ?_)
    refine fx_aloadn dX1_answer_73 rfl ?_
    refine fx_iload dX1_answer_74 rfl ?_
    refine fx_callVp dX1_answer_76 vX3_isKern kkX1_90 rfl rfl (by assumption) (p_fo_isKern H V _) rfl (by decide) (by decide) rfl (Nat.le_of_ble_eq_true rfl) ?_
    refine fx_if_ne 95 dX1_answer_79 (by decide) (fun c79 => absurd (bI_0.mpr hk) c79) (fun c79 => ?_)
    refine fx_iload dX1_answer_82 rfl ?_
    refine fx_iconst (nI 5) dX1_answer_84 (by decide) ?_
    refine fx_icmp_eq 95 dX1_answer_85 (by decide) (fun c85 => absurd c85 (fun q => absurd ((nI_eq (by omega) (by decide)).mp q) (by omega))) (fun c85 => ?_)
    refine fx_iload dX1_answer_88 rfl ?_
    refine fx_bipush (nI 11) dX1_answer_90 (by decide) ?_
    refine fx_icmp_ne 103 dX1_answer_92 (by decide) (fun c92 => ?_) (fun c92 => absurd c92 (fun q => absurd ((nI_eq (by omega) (by decide)).mp q) (by omega)))
    refine fx_iload dX1_answer_103 rfl ?_
    rw [ho]
    refine fx_tswIn 53 158 dX1_answer_105 (by decide) (by decide) rfl (by decide) ?_
    rcases K.get (x := x) (y := ml_r b (ml_tt b x y)) hx qr with hu | ⟨z, hzl, hkn, n9, hn9⟩
    · skip
      refine fx_aloadn dX1_answer_158 rfl ?_
      refine fx_iloadn dX1_answer_159 rfl ?_
      refine fx_iload dX1_answer_160 rfl ?_
      refine fx_iload dX1_answer_162 rfl ?_
      refine fx_callVp dX1_answer_164 vX1_answerAs kkX1_96 rfl rfl (by assumption) (c_en_answerAsU E B hL hrL _ x _ hx qr hu) rfl (by decide) (by decide) rfl (Nat.le_of_ble_eq_true rfl) ?_
      refine fx_iret dX1_answer_167 rfl ?_
      refine Or.inr ⟨x, _, hx, qr, hu, rfl, rfl, fun n hn => ?_⟩
      cases n with
      | zero => exact absurd (by unfold ml_An; rw [if_neg ht]) hn
      | succ n =>
        refine ⟨n, Nat.lt_succ_self n, ?_⟩
        unfold ml_An at hn
        rw [if_neg ht, if_neg (by omega), if_neg (by omega), if_neg (by omega), if_pos ho] at hn
        exact hn
    · skip
      refine fx_aloadn dX1_answer_158 rfl ?_
      refine fx_iloadn dX1_answer_159 rfl ?_
      refine fx_iload dX1_answer_160 rfl ?_
      refine fx_iload dX1_answer_162 rfl ?_
      refine fx_callV dX1_answer_164 vX1_answerAs kkX1_96 rfl rfl h1 (c_en_answerAsK E B hL hrL N (ml_P b x y) x (ml_r b (ml_tt b x y)) z hpL hx qr hzl hkn) rfl (by decide) (by decide) (Nat.zero_le _) (Nat.zero_le _) rfl (Nat.le_of_ble_eq_true rfl) (fun r h2 hk2 => ?_)
      obtain ⟨rfl, hk3, hk4⟩ := hk2
      refine fx_iret dX1_answer_167 rfl ?_
      exact Or.inl ⟨rfl, z, hzl, ⟨n9 + 1, by unfold ml_An; rw [if_neg ht, if_neg (by omega), if_neg (by omega), if_neg (by omega), if_pos ho]; exact hn9⟩, hk3, hk4⟩
  · skip
    refine fx_iload dX1_answer_68 rfl ?_
    refine fx_if_lt 95 dX1_answer_70 (by decide) (fun c70 => absurd c70 (hneg)) (fun c70 => ?_)
    refine fx_aloadn dX1_answer_73 rfl ?_
    refine fx_iload dX1_answer_74 rfl ?_
    refine fx_callVp dX1_answer_76 vX3_isKern kkX1_90 rfl rfl (by assumption) (p_fo_isKern H V _) rfl (by decide) (by decide) rfl (Nat.le_of_ble_eq_true rfl) ?_
    refine fx_if_ne 95 dX1_answer_79 (by decide) (fun c79 => absurd (bI_0.mpr hk) c79) (fun c79 => ?_)
    refine fx_iload dX1_answer_82 rfl ?_
    refine fx_iconst (nI 5) dX1_answer_84 (by decide) ?_
    refine fx_icmp_eq 95 dX1_answer_85 (by decide) (fun c85 => absurd c85 (fun q => absurd ((nI_eq (by omega) (by decide)).mp q) (by omega))) (fun c85 => ?_)
    refine fx_iload dX1_answer_88 rfl ?_
    refine fx_bipush (nI 11) dX1_answer_90 (by decide) ?_
    refine fx_icmp_ne 103 dX1_answer_92 (by decide) (fun c92 => ?_) (fun c92 => absurd c92 (fun q => absurd ((nI_eq (by omega) (by decide)).mp q) (by omega)))
    refine fx_iload dX1_answer_103 rfl ?_
    rw [ho]
    refine fx_tswIn 63 168 dX1_answer_105 (by decide) (by decide) rfl (by decide) ?_
    rcases K.get (x := x) (y := ml_r b (ml_tt b x y)) hx qr with hu | ⟨z0, hzl0, hkn0, n0, hn0⟩
    · skip
      refine fx_aloadn dX1_answer_168 rfl ?_
      refine fx_iload dX1_answer_169 rfl ?_
      refine fx_iload dX1_answer_171 rfl ?_
      refine fx_callVp dX1_answer_173 vX1_endOf kkX1_100 rfl rfl (by assumption) (p_en_endOfU E B hL hrL x _ hx qr hu) rfl (by decide) (by decide) rfl (Nat.le_of_ble_eq_true rfl) ?_
      refine fx_istore dX1_answer_176 (by decide) ?_
      refine fx_iload dX1_answer_178 rfl ?_
      refine fx_iconst (-1) dX1_answer_180 (by decide) ?_
      refine fx_icmp_ne 195 dX1_answer_181 (by decide) (fun c181 => absurd (rfl) c181) (fun c181 => ?_)
      refine fx_aloadn dX1_answer_184 rfl ?_
      refine fx_iload dX1_answer_185 rfl ?_
      refine fx_iload dX1_answer_187 rfl ?_
      refine fx_callVp dX1_answer_189 vX1_pairOf kkX1_103 rfl rfl (by assumption) (p_en_pairOf E B x _ hx) rfl (by decide) (by decide) rfl (Nat.le_of_ble_eq_true rfl) ?_
      rw [if_neg hu.1]
      refine fx_goto 204 dX1_answer_192 (by decide) ?_
      refine fx_iret dX1_answer_204 rfl ?_
      refine Or.inr ⟨x, _, hx, qr, hu, rfl, rfl, fun n hn => ?_⟩
      cases n with
      | zero => exact absurd (by unfold ml_An; rw [if_neg ht]) hn
      | succ n =>
        refine ⟨n, Nat.lt_succ_self n, fun q => ?_⟩
        unfold ml_An at hn
        rw [if_neg ht, if_neg (by omega), if_neg (by omega), if_neg (by omega), if_neg (by omega), if_pos q] at hn
        exact hn rfl
    · rcases K.get (x := z0) (y := y) (by omega) hy with hu | ⟨z, hzl, hkn, n9, hn9⟩
      · skip
        refine fx_aloadn dX1_answer_168 rfl ?_
        refine fx_iload dX1_answer_169 rfl ?_
        refine fx_iload dX1_answer_171 rfl ?_
        refine fx_callVp dX1_answer_173 vX1_endOf kkX1_100 rfl rfl (by assumption) (p_en_endOfK E B hL hrL x _ z0 hx qr hzl0 hkn0) rfl (by decide) (by decide) rfl (Nat.le_of_ble_eq_true rfl) ?_
        refine fx_istore dX1_answer_176 (by decide) ?_
        refine fx_iload dX1_answer_178 rfl ?_
        refine fx_iconst (-1) dX1_answer_180 (by decide) ?_
        refine fx_icmp_ne 195 dX1_answer_181 (by decide) (fun c181 => ?_) (fun c181 => absurd c181 (nI_m1 _ (by omega)))
        refine fx_aloadn dX1_answer_195 rfl ?_
        refine fx_iloadn dX1_answer_196 rfl ?_
        refine fx_iload dX1_answer_197 rfl ?_
        refine fx_iload dX1_answer_199 rfl ?_
        refine fx_callVp dX1_answer_201 vX1_answerAs kkX1_96 rfl rfl (by assumption) (c_en_answerAsU E B hL hrL _ z0 y (by omega) hy hu) rfl (by decide) (by decide) rfl (Nat.le_of_ble_eq_true rfl) ?_
        refine fx_iret dX1_answer_204 rfl ?_
        refine Or.inr ⟨z0, y, by omega, hy, hu, rfl, rfl, fun n hn => ?_⟩
        cases n with
        | zero => exact absurd (by unfold ml_An; rw [if_neg ht]) hn
        | succ n =>
          refine ⟨n, Nat.lt_succ_self n, ?_⟩
          unfold ml_An at hn
          rw [if_neg ht, if_neg (by omega), if_neg (by omega), if_neg (by omega), if_neg (by omega)] at hn
          by_cases q : ml_An b n x (ml_r b (ml_tt b x y)) = 0
          · rw [if_pos q] at hn
            exact absurd rfl hn
          · rw [if_neg q] at hn
            have e := an_det q (show ml_An b n0 x (ml_r b (ml_tt b x y)) ≠ 0 by omega)
            rw [e, hn0] at hn
            exact hn
      · skip
        refine fx_aloadn dX1_answer_168 rfl ?_
        refine fx_iload dX1_answer_169 rfl ?_
        refine fx_iload dX1_answer_171 rfl ?_
        refine fx_callVp dX1_answer_173 vX1_endOf kkX1_100 rfl rfl (by assumption) (p_en_endOfK E B hL hrL x _ z0 hx qr hzl0 hkn0) rfl (by decide) (by decide) rfl (Nat.le_of_ble_eq_true rfl) ?_
        refine fx_istore dX1_answer_176 (by decide) ?_
        refine fx_iload dX1_answer_178 rfl ?_
        refine fx_iconst (-1) dX1_answer_180 (by decide) ?_
        refine fx_icmp_ne 195 dX1_answer_181 (by decide) (fun c181 => ?_) (fun c181 => absurd c181 (nI_m1 _ (by omega)))
        refine fx_aloadn dX1_answer_195 rfl ?_
        refine fx_iloadn dX1_answer_196 rfl ?_
        refine fx_iload dX1_answer_197 rfl ?_
        refine fx_iload dX1_answer_199 rfl ?_
        refine fx_callV dX1_answer_201 vX1_answerAs kkX1_96 rfl rfl h1 (c_en_answerAsK E B hL hrL N (ml_P b x y) z0 y z hpL (by omega) hy hzl hkn) rfl (by decide) (by decide) (Nat.zero_le _) (Nat.zero_le _) rfl (Nat.le_of_ble_eq_true rfl) (fun r h2 hk2 => ?_)
        obtain ⟨rfl, hk3, hk4⟩ := hk2
        refine fx_iret dX1_answer_204 rfl ?_
        refine Or.inl ⟨rfl, z, hzl, ⟨n0 + n9 + 1, ?_⟩, hk3, hk4⟩
        have e0 : ml_An b (n0 + n9) x (ml_r b (ml_tt b x y)) = z0 + 1 := (an_le (by omega) (show ml_An b n0 x (ml_r b (ml_tt b x y)) ≠ 0 by omega)).trans hn0
        have e1 : ml_An b (n0 + n9) z0 y = z + 1 := (an_le (by omega) (show ml_An b n9 z0 y ≠ 0 by omega)).trans hn9
        unfold ml_An
        rw [if_neg ht, if_neg (by omega), if_neg (by omega), if_neg (by omega), if_neg (by omega), e0, if_neg (by omega)]
        exact e1
