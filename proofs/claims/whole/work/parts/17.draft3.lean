/-! FontDesk$Draft: what changes it -/
set_option maxRecDepth 100000 in
theorem acp_l : Cond.methodLink RJ7 150 arraycopyName ∈ fx_ws := fx_in 210 rfl rfl
set_option maxRecDepth 100000 in
theorem acp_s : Cond.static arraycopyName ∈ fx_ws := fx_in 211 rfl rfl
set_option maxRecDepth 100000 in
theorem acp_n : Cond.native arraycopyName ∈ fx_ws := fx_in 212 rfl rfl
/-- System.arraycopy over bytes -/
theorem fx_copyB {g : fx_G} {M : fx_M} {d lo : Nat} {K : Option Value → fx_H → Prop} {KX : String → fx_H → Prop} {pc idx : Nat} {lv : List (Nat × Value)} {st : List Value} {h : fx_H} {cu su : Nat} {a0 a n0 n1 : Nat} {f f1 : Nat → Int32} {sp dp n : Int32} (hd : decode M.2.1 pc = .ok (.invokestatic idx, 3)) (hlk : Cond.methodLink M.1.cls idx arraycopyName ∈ fx_ws) (hini : Cond.initialized "java/lang/System" ∈ fx_ws)
    (ha0 : h a0 = some (.inl (1, n0, .inl f))) (ha1 : h a = some (.inl (1, n1, .inl f1))) (h1 : ¬ sp < 0) (h2 : ¬ dp < 0) (h3 : ¬ n < 0) (h4 : sp.toNatClampNeg + n.toNatClampNeg ≤ n0) (h5 : dp.toNatClampNeg + n.toNatClampNeg ≤ n1) (hfit : ∀ i, fits .byte (.int (f i)) = true) (hdd : 1 ≤ d) (hll : 26 ≤ lo) (hst : (st.map fun v => v.category).sum ≤ 8)
    (k : ∀ h' : fx_H, h' a = some (.inl (1, n1, .inl (va_cpy f f1 sp.toNatClampNeg dp.toNatClampNeg n.toNatClampNeg))) → (∀ x, x ≠ a → h' x = h x) → fx_Y g M d lo K KX (pc + 3) lv st h' cu su) : fx_Y g M d lo K KX pc lv (.int n :: .int dp :: .ref a :: .int sp :: .ref a0 :: st) h cu su := by
  intro p l e R s m args below meth c H locs cells slots ls hC hR hl q1 q2 q3
  have hdR := hC.d
  have hlR := hC.lo
  have nn : ∀ z : Int32, ¬ z < 0 → z.toInt = (z.toNatClampNeg : Int) := by
    intro z hz
    have hz0 : (0 : Int) ≤ z.toInt := by
      have := Int32.not_lt.mp hz
      simpa using Int32.le_iff_toInt_le.mp this
    show z.toInt = ((z.toInt.toNat : Nat) : Int)
    omega
  intro T hT X
  have hc0 : H[a0]? = some (vp_cell (g.2.1 1) (n0, .inl f)) := (hR.1 _ _ ha0).2
  have hc1 : H[a]? = some (vp_cell (g.2.1 1) (n1, .inl f1)) := (hR.1 _ _ ha1).2
  obtain ⟨-, k0, hk0, cm0, hkk0⟩ := (hC.k.2.1 1 (by decide)).1 n0 (fun j => .int (f j))
  obtain ⟨-, k1, hk1, cm1, hkk1⟩ := (hC.k.2.1 1 (by decide)).1 n1 (fun j => .int (f1 j))
  obtain ⟨vm', X', step⟩ := X.arraycopy hC.x hC.own (hC.ts _ hlk) (hC.ts _ acp_n) (hC.ts _ acp_s) (hC.ts _ hini) (src := a0) (dst := a) (cs := vp_cell (g.2.1 1) (n0, .inl f)) (cd := vp_cell (g.2.1 1) (n1, .inl f1)) (srcPos := sp) (destPos := dp) (n := n) (by rw [hT]; exact hc0) (by rw [hT]; exact hc1)
    (fun _ h => by cases h) (fun _ h => by cases h) (fun h => by cases h) (fun h => by cases h) hk0 hk1 hkk0 hkk1 (by rfl) h1 h2 h3
    (by rw [nn sp h1, nn n h3]; show ¬ _ > ((arrV _ n0 (fun j => .int (f j))).slots.size : Int); rw [arrV_size]; omega)
    (by rw [nn dp h2, nn n h3]; show ¬ _ > ((arrV _ n1 (fun j => .int (f1 j))).slots.size : Int); rw [arrV_size]; omega)
    (fun vm₁ _ i hi => by
      have e : (vp_cell (g.2.1 1) (n0, .inl f)).slots.getD (sp.toNatClampNeg + i) .null = .int (f (sp.toNatClampNeg + i)) := by
        show (arrV _ n0 (fun j => .int (f j))).slots.getD _ _ = _
        rw [Array.getD_eq_getD_getElem?, arrV_read _ _ (by omega)]
        rfl
      refine ⟨?_, ?_⟩
      · rw [e]
        exact hfit _
      · rw [e]
        exact trivial)
    (g := F0 m pc ls (.int n :: .int dp :: .ref a :: .int sp :: .ref a0 :: st)) rfl (by rw [hC.ml]; exact hl.1) (rest := st) rfl (by rw [hC.b]; exact hd) (by omega) (by show 2 * 0 + _ + (7 + 11) ≤ _; omega)
  have e1 : copied (vp_cell (g.2.1 1) (n0, .inl f)) (vp_cell (g.2.1 1) (n1, .inl f1)) sp dp n = vp_cell (g.2.1 1) (n1, .inl (va_cpy f f1 sp.toNatClampNeg dp.toNatClampNeg n.toNatClampNeg)) := va_copied (fun z => .int z) (g.2.1 1) (g.2.1 1) f f1 h4
  rw [e1] at X' step
  have hl9 : a < H.size := (Array.getElem?_eq_some_iff.mp hc1).1
  generalize hcc : vp_cell (g.2.1 1) (n1, .inl (va_cpy f f1 sp.toNatClampNeg dp.toNatClampNeg n.toNatClampNeg)) = cc9 at X' step
  have hheap : ((T.setVm vm').setCell a cc9).heap = H.setIfInBounds a cc9 := by rw [← hT]; rfl
  obtain ⟨t, a1, b1⟩ := k (va_up h a (some (.inl (1, n1, .inl (va_cpy f f1 sp.toNatClampNeg dp.toNatClampNeg n.toNatClampNeg))))) (va_up_self _ _ _) (fun x hx => va_up_ne _ _ hx) p l e R s m args below meth c _ _ cells slots ls hC
    (hR.set (H1 := H.setIfInBounds a cc9) (hR.1 _ _ ha1).1 (by show (H.setIfInBounds a cc9)[a]? = some (vp_cell _ _); rw [hcc]; simp [Array.getElem?_setIfInBounds, hl9]) (by simp) (fun q hq _ => by simp [Array.getElem?_setIfInBounds, Ne.symm hq])) hl q1 q2 (fun q hq => by
      rcases List.mem_append.mp hq with h9 | h9
      · exact q3 q h9
      · obtain ⟨z, -, hz⟩ := List.mem_map.mp h9
        rw [← hz]
        exact (hR.1 _ _ ha1).1) _ hheap X'
  exact ⟨t, step t a1, b1⟩
theorem c_copyOf {g : fx_G} {h : fx_H} {p n m : Nat} {f : Nat → Int32} (hp : h p = some (.inl (1, n, .inl f))) (hf : ∀ i, fits .byte (.int (f i)) = true) (hnm : n < m) (hm : m ≤ 131072) : fx_Met g mJ7_copyOf_9075b 1 30 [.ref p, .int (nI m)] h 1 m (fun r h' => ∃ q, r = some (.ref q) ∧ h q = none ∧ ∃ f', h' q = some (.inl (1, m, .inl f')) ∧ (∀ j, j < n → f' j = f j) ∧ (∀ i, fits .byte (.int (f' i)) = true) ∧ (∀ x, h x ≠ none → h' x = h x)) := by
  refine fx_Met.of rfl (Nat.le_of_ble_eq_true rfl) ?_
  refine fx_iloadn dJ7_copyOf_9075b_0 rfl ?_
  refine fx_aloadn dJ7_copyOf_9075b_1 rfl ?_
  refine fx_alenI dJ7_copyOf_9075b_2 (by assumption) (by decide) ?_
  have hne : nI m ≠ nI n := fun e => absurd ((nI_eq (by omega) (by omega)).mp e) (by omega)
  refine fx_icmp_ne 14 dJ7_copyOf_9075b_3 (by decide) (fun c3 => ?_) (fun c3 => absurd c3 (hne))
  refine fx_iloadn dJ7_copyOf_9075b_14 rfl ?_
  refine fx_newIV 1 m (by decide) rfl dJ7_copyOf_9075b_15 ac_byte (nI_pos (by omega)) (nI_clamp (by omega)) (by omega) (by decide) (Nat.le_refl _) (fun q h1 hq e1 o1 => ?_)
  have hpq : p ≠ q := ne_new hp hq
  have hp1 : h1 p = some (.inl (1, n, .inl f)) := (o1 p hpq).trans hp
  refine fx_astoren dJ7_copyOf_9075b_17 (by decide) ?_
  refine fx_aloadn dJ7_copyOf_9075b_18 rfl ?_
  refine fx_iconst (nI 0) dJ7_copyOf_9075b_19 (by decide) ?_
  refine fx_aloadn dJ7_copyOf_9075b_20 rfl ?_
  refine fx_iconst (nI 0) dJ7_copyOf_9075b_21 (by decide) ?_
  refine fx_aloadn dJ7_copyOf_9075b_22 rfl ?_
  refine fx_alenI dJ7_copyOf_9075b_23 (by assumption) (by decide) ?_
  refine fx_iloadn dJ7_copyOf_9075b_24 rfl ?_
  refine fx_mmin dJ7_copyOf_9075b_25 mthJ7_304 ms_min inJ9 mc_min (by decide) (by decide) (Nat.le_of_ble_eq_true rfl) ?_
  rw [if_neg (nI_nlt (by omega) (by omega))]
  refine fx_copyB dJ7_copyOf_9075b_28 acp_l inJ10 hp1 e1 (by decide) (by decide) (nI_pos (by omega)) (by rw [nI_clamp (by decide), nI_clamp (by omega)]; omega) (by rw [nI_clamp (by decide), nI_clamp (by omega)]; omega) hf (by decide) (by decide) (Nat.le_of_ble_eq_true rfl) (fun h2 e2 o2 => ?_)
  refine fx_aloadn dJ7_copyOf_9075b_31 rfl ?_
  refine fx_aret dJ7_copyOf_9075b_32 rfl (Or.inr ⟨_, rfl⟩) (Or.inr ⟨_, rfl⟩) ⟨q, rfl, hq, _, e2, ?_, sb_fitC hf sb_fit0, fun x hx => ?_⟩
  · intro j hj
    rw [nI_clamp (by decide), nI_clamp (by omega)]
    exact sb_cpy0 hj
  · rw [o2 x (fun e => hx (by rw [e]; exact hq)), o1 x (fun e => hx (by rw [e]; exact hq))]
theorem c_dr_clear {g : fx_G} {h : fx_H} {a p n len : Nat} {B : Nat → Nat} (H : dr h a p n len B) : fx_Met g mX0_clear 0 0 [.ref a] h 0 0 (fun r h' => r = none ∧ ∃ p' n', dr h' a p' n' 0 B ∧ (p' = p ∨ h p' = none) ∧ kp (fun x => x = a ∨ x = p) h h') := by
  obtain ⟨h1, h2, h3, f, h4, h5, h6⟩ := H
  refine fx_Met.of rfl (Nat.le_of_ble_eq_true rfl) ?_
  refine fx_aloadn dX0_clear_0 rfl ?_
  refine fx_iconst (nI 0) dX0_clear_1 (by decide) ?_
  refine fx_putV dX0_clear_2 ffX0_13 (by assumption) rfl rfl (Nat.le_of_ble_eq_true rfl) (fun h1' e1 o1 => ?_)
  refine fx_vret dX0_clear_5 rfl ?_
  exact ⟨rfl, p, n, ⟨e1, Nat.zero_le _, h3, f, (o1 p (Ne.symm (ne_oa h1 h4))).trans h4, fun j hj => by omega, h6⟩, Or.inl rfl, kp.put kp.rf o1 (Or.inl (Or.inl rfl))⟩
theorem c_dr_makeRoom {g : fx_G} {h : fx_H} {a p n len : Nat} {B : Nat → Nat} (H : dr h a p n len B) (wn ms : Nat) (hwn : wn ≤ 131072) (hms : n < wn → wn ≤ ms ∧ 2 * n ≤ ms) : fx_Met g mX0_makeRoom 2 52 [.ref a, .int (nI wn)] h 1 ms (fun r h' => r = none ∧ ∃ p' n', dr h' a p' n' len B ∧ wn ≤ n' ∧ (p' = p ∨ h p' = none) ∧ kp (fun x => x = a ∨ x = p) h h' ∧ (n' ≤ n ∨ n' ≤ ms)) := by
  obtain ⟨h1, h2, h3, f, h4, h5, h6⟩ := H
  refine fx_Met.of rfl (Nat.le_of_ble_eq_true rfl) ?_
  by_cases hw : wn ≤ n
  · skip
    refine fx_iloadn dX0_makeRoom_0 rfl ?_
    refine fx_aloadn dX0_makeRoom_1 rfl ?_
    refine fx_get dX0_makeRoom_2 ffX0_7 (by assumption) rfl ?_
    refine fx_alenI dX0_makeRoom_5 (by assumption) (by decide) ?_
    refine fx_icmp_le 36 dX0_makeRoom_6 (by decide) (fun c6 => ?_) (fun c6 => absurd (nI_le hw (by omega)) c6)
    refine fx_vret dX0_makeRoom_36 rfl ?_
    exact ⟨rfl, p, n, ⟨h1, h2, h3, f, h4, h5, h6⟩, hw, Or.inl rfl, kp.rf, Or.inl (Nat.le_refl _)⟩
  · have hms := hms (by omega)
    refine fx_iloadn dX0_makeRoom_0 rfl ?_
    refine fx_aloadn dX0_makeRoom_1 rfl ?_
    refine fx_get dX0_makeRoom_2 ffX0_7 (by assumption) rfl ?_
    refine fx_alenI dX0_makeRoom_5 (by assumption) (by decide) ?_
    refine fx_icmp_le 36 dX0_makeRoom_6 (by decide) (fun c6 => absurd c6 (nI_ge (by omega) (by omega))) (fun c6 => ?_)
    refine fx_aloadn dX0_makeRoom_9 rfl ?_
    refine fx_aloadn dX0_makeRoom_10 rfl ?_
    refine fx_get dX0_makeRoom_11 ffX0_7 (by assumption) rfl ?_
    refine fx_ldc dX0_makeRoom_14 qqX0_17 ?_
    refine fx_iloadn dX0_makeRoom_16 rfl ?_
    refine fx_iconst (nI 2) dX0_makeRoom_17 (by decide) ?_
    refine fx_aloadn dX0_makeRoom_18 rfl ?_
    refine fx_get dX0_makeRoom_19 ffX0_7 (by assumption) rfl ?_
    refine fx_alenI dX0_makeRoom_22 (by assumption) (by decide) ?_
    refine fx_imul dX0_makeRoom_23 ?_
    rw [pk_mul]
    refine fx_mmax dX0_makeRoom_24 mthX0_22 ms_max inJ9 mc_max (by decide) (by decide) (Nat.le_of_ble_eq_true rfl) ?_
    have e9 : (if nI wn < nI (2 * n) then nI (2 * n) else nI wn) = nI (if wn < 2 * n then 2 * n else wn) := by
      by_cases q : wn < 2 * n
      · rw [if_pos q, if_pos (nI_lt q (by omega))]
      · rw [if_neg q, if_neg (nI_nlt (by omega) (by omega))]
    rw [e9]
    generalize hmx : (if wn < 2 * n then 2 * n else wn) = mx
    have hmx1 : mx < 2 ^ 20 ∧ wn ≤ mx ∧ mx ≤ ms := by
      rw [← hmx]
      split <;> omega
    refine fx_mmin dX0_makeRoom_27 mthX0_28 ms_min inJ9 mc_min (by decide) (by decide) (Nat.le_of_ble_eq_true rfl) ?_
    have e8 : (if nI mx < nI 131072 then nI mx else nI 131072) = nI (if mx < 131072 then mx else 131072) := by
      by_cases q : mx < 131072
      · rw [if_pos q, if_pos (nI_lt q (by omega))]
      · rw [if_neg q, if_neg (nI_nlt (by omega) (by omega))]
    rw [e8]
    generalize hmy : (if mx < 131072 then mx else 131072) = my
    have hmy1 : my ≤ 131072 ∧ wn ≤ my ∧ my ≤ ms := by
      rw [← hmy]
      split <;> omega
    refine fx_callS dX0_makeRoom_30 vJ7_copyOf_9075b kkX0_31 (c_copyOf h4 h6 (show n < my by omega) hmy1.1) rfl (by decide) (by decide) (by decide) (by omega) rfl (Nat.le_of_ble_eq_true rfl) (fun r h2' hk => ?_)
    obtain ⟨q, rfl, hq, f2, hq2, hf2, hf3, hk2⟩ := hk
    have ha2 : h2' a = some (.inr (0, [.ref p, .int (nI len)])) := (hk2 a (by rw [h1]; exact fun e => by cases e)).trans h1
    have hnq : q ≠ a := fun e => by rw [e, h1] at hq; cases hq
    refine fx_putV dX0_makeRoom_33 ffX0_7 (by assumption) rfl rfl (Nat.le_of_ble_eq_true rfl) (fun h3' e3 o3 => ?_)
    refine fx_vret dX0_makeRoom_36 rfl ?_
    refine ⟨rfl, q, my, ⟨e3, by omega, hmy1.1, f2, (o3 q hnq).trans hq2, fun j hj => ?_, hf3⟩, hmy1.2.1, Or.inr hq, ?_, Or.inr hmy1.2.2⟩
    · rw [hf2 j (by omega)]
      exact h5 j hj
    · intro x hx hS
      rw [o3 x (fun e => hS (Or.inl e)), hk2 x hx]
/-- byte k of a long -/
def vb (v : Int64) (k : Nat) : Nat := (v >>> ((nI (8 * k)).toInt64 &&& 63)).toInt32.toBitVec.toNat % 256
theorem vb_lt (v : Int64) (k : Nat) : vb v k < 256 := Nat.mod_lt _ (by decide)
theorem vb_cl (v : Int64) (k : Nat) : vp_nar .byte (v >>> ((nI (8 * k)).toInt64 &&& 63)).toInt32.toInt8.toInt32 &&& nI 255 = nI (vb v k) := by
  have e : ∀ x : Int32, x.toInt8.toInt32 &&& 255 = x &&& 255 := fun x => by
    apply Int32.toBitVec_inj.mp
    rw [Int32.toBitVec_and, Int32.toBitVec_and, Int8.toBitVec_toInt32, Int32.toBitVec_toInt8]
    apply BitVec.eq_of_getLsbD_eq
    intro i hi
    rw [BitVec.getLsbD_and, BitVec.getLsbD_and]
    have hm : ∀ i < 32, 8 ≤ i → (255 : Int32).toBitVec.getLsbD i = false := by decide
    rcases Nat.lt_or_ge i 8 with z | z
    · rw [BitVec.getLsbD_signExtend, BitVec.getLsbD_signExtend, if_pos z, if_pos hi]
      simp only [z, hi, decide_true, Bool.true_and]
    · rw [hm i hi z]; simp
  rw [pk_vb]
  show _ &&& (255 : Int32) = _
  rw [e]
  exact pk_and _ (m := 255) 8 (by decide)
/-- what stands behind an append -/
def ap (B : Nat → Nat) (len : Nat) (v : Int64) (m : Nat) : Nat → Nat := fun j => if j < len then B j else vb v (m - 1 - (j - len))
theorem nI_m8 (r : Nat) : nI (8 * (r + 1)) + (-8) = nI (8 * r) := by
  rw [show 8 * (r + 1) = 8 * r + 8 by omega, ← nI_add, Int32.add_assoc, show nI 8 + (-8 : Int32) = 0 by decide, Int32.add_zero]

theorem l_dr_append {g : fx_G} {h0 : fx_H} {a p n len m : Nat} {B : Nat → Nat} {v : Int64} (hm : len + m ≤ n) (hm8 : m ≤ 8) : ∀ (r : Nat) (h : fx_H) (i : Nat), i + r = m → dr h a p n (len + i) (ap B len v m) → ∀ sh : Int32, sh = nI (8 * r) + (-8) → kp (fun x => x = a ∨ x = p) h0 h → fx_Y g mX0_append 3 73 (fun r h' => r = some (.int (nI 1)) ∧ ∃ p', dr h' a p' n (len + m) (ap B len v m) ∧ p' = p ∧ kp (fun x => x = a ∨ x = p) h0 h') (fun _ _ => False) 42 [(0, .ref a), (1, .long v), (4, .int sh)] [] h 0 0 := by
  intro r
  induction r with
  | zero =>
    intro h i hi hD sh hsh hk
    have hi : i = m := by omega
    subst hi
    refine fx_iload dX0_append_42 rfl ?_
    refine fx_if_lt 90 dX0_append_44 (by decide) (fun c44 => ?_) (fun c44 => absurd (by rw [hsh]; decide) c44)
    refine fx_iconst (nI 1) dX0_append_90 (by decide) ?_
    refine fx_zret dX0_append_91 rfl rfl ?_
    exact ⟨rfl, p, hD, rfl, hk⟩
  | succ r ih =>
    intro h i hi hD sh hsh hk
    rw [nI_m8] at hsh
    obtain ⟨h1, h2, h3, f, h4, h5, h6⟩ := hD
    refine fx_iload dX0_append_42 rfl ?_
    refine fx_if_lt 90 dX0_append_44 (by decide) (fun c44 => absurd c44 (by rw [hsh]; exact nI_pos (by omega))) (fun c44 => ?_)
    refine fx_aloadn dX0_append_47 rfl ?_
    refine fx_get dX0_append_48 ffX0_13 (by assumption) rfl ?_
    refine fx_aloadn dX0_append_51 rfl ?_
    refine fx_get dX0_append_52 ffX0_7 (by assumption) rfl ?_
    refine fx_alenI dX0_append_55 (by assumption) (by decide) ?_
    refine fx_icmp_ge 90 dX0_append_56 (by decide) (fun c56 => absurd c56 (nI_ge (show len + i < n by omega) (by omega))) (fun c56 => ?_)
    refine fx_aloadn dX0_append_59 rfl ?_
    refine fx_get dX0_append_60 ffX0_7 (by assumption) rfl ?_
    refine fx_aloadn dX0_append_63 rfl ?_
    refine fx_get dX0_append_64 ffX0_13 (by assumption) rfl ?_
    refine fx_lloadn dX0_append_67 rfl ?_
    rw [hsh]
    refine fx_iload dX0_append_68 rfl ?_
    refine fx_lshr dX0_append_70 ?_
    refine fx_l2i dX0_append_71 ?_
    refine fx_i2b dX0_append_72 ?_
    refine fx_bastV dX0_append_73 (by assumption) (vp_in_nI (show len + i < n by omega) (by omega)) (fun h1' e1 o1 => ?_)
    rw [nI_clamp (by omega)] at e1
    have ha1 : h1' a = some (.inr (0, [.ref p, .int (nI (len + i))])) := (o1 a (ne_oa h1 h4)).trans h1
    refine fx_aloadn dX0_append_74 rfl ?_
    refine fx_dup dX0_append_75 rfl ?_
    refine fx_get dX0_append_76 ffX0_13 (by assumption) rfl ?_
    refine fx_iconst (nI 1) dX0_append_79 (by decide) ?_
    refine fx_iadd dX0_append_80 ?_
    refine fx_putV dX0_append_81 ffX0_13 (by assumption) rfl rfl (Nat.le_of_ble_eq_true rfl) (fun h2' e2 o2 => ?_)
    refine fx_iinc (-8) dX0_append_84 rfl (by decide) (by decide) ?_
    refine fx_goto 42 dX0_append_87 (by decide) ?_
    rw [nI_add] at e2
    have hp2 := (o2 p (Ne.symm (ne_oa h1 h4))).trans e1
    refine fx_to (ih h2' (i + 1) (by omega) ⟨e2, by omega, h3, _, hp2, fun j hj => ?_, sb_fitU h6 (pk_fb _)⟩ _ rfl (kp.put (kp.put hk o1 (Or.inl (Or.inr rfl))) o2 (Or.inl (Or.inl rfl)))) ⟨rfl, rfl, ?_, trivial⟩
    · by_cases e : j = len + i
      · subst e
        rw [pk_us]
        refine ⟨?_, ?_⟩
        · unfold ap
          rw [if_neg (by omega), show m - 1 - (len + i - len) = r by omega]
          exact vb_cl v r
        · unfold ap
          rw [if_neg (by omega)]
          exact vb_lt _ _
      · rw [pk_un e]
        exact h5 j (by omega)
    · rfl
def putOk (len : Nat) (x : Int32) : Prop := ∃ m, 1 ≤ m ∧ m ≤ 8 ∧ len + m ≤ 131072 ∧ x = nI m
theorem c_dr_appendN {g : fx_G} {h : fx_H} {a p n len : Nat} {B : Nat → Nat} (H : dr h a p n len B) (v : Int64) (x : Int32) (hx : ¬ putOk len x) (ms : Nat) : fx_Met g mX0_append 3 73 [.ref a, .long v, .int x] h 1 ms (fun r h' => r = some (.int (nI 0)) ∧ h' = h) := by
  have hlen := H.len
  obtain ⟨h1, h2, h3, f, h4, h5, h6⟩ := H
  refine fx_Met.of rfl (Nat.le_of_ble_eq_true rfl) ?_
  by_cases x1 : x < nI 1
  · skip
    refine fx_iloadn dX0_append_0 rfl ?_
    refine fx_iconst (nI 1) dX0_append_1 (by decide) ?_
    refine fx_icmp_lt 22 dX0_append_2 (by decide) (fun c2 => ?_) (fun c2 => absurd (x1) c2)
    refine fx_iconst (nI 0) dX0_append_22 (by decide) ?_
    refine fx_zret dX0_append_23 rfl rfl ?_
    exact ⟨rfl, rfl⟩
  · by_cases x8 : nI 8 < x
    · skip
      refine fx_iloadn dX0_append_0 rfl ?_
      refine fx_iconst (nI 1) dX0_append_1 (by decide) ?_
      refine fx_icmp_lt 22 dX0_append_2 (by decide) (fun c2 => absurd c2 (x1)) (fun c2 => ?_)
      refine fx_iloadn dX0_append_5 rfl ?_
      refine fx_bipush (nI 8) dX0_append_6 (by decide) ?_
      refine fx_icmp_gt 22 dX0_append_8 (by decide) (fun c8 => ?_) (fun c8 => absurd (x8) c8)
      refine fx_iconst (nI 0) dX0_append_22 (by decide) ?_
      refine fx_zret dX0_append_23 rfl rfl ?_
      exact ⟨rfl, rfl⟩
    · obtain ⟨m, hm, rfl⟩ := nI_of2 (M := nI 8) (n := 8) rfl (fun e => x1 (Int32.lt_trans e (by decide))) (Int32.not_lt.mp x8)
      have hm1 : 1 ≤ m := Nat.le_of_not_lt (fun e => x1 (nI_lt e (by decide)))
      have hlm : 131072 - len < m := by
        by_cases e : len + m ≤ 131072
        · exact absurd ⟨m, hm1, hm, e, rfl⟩ hx
        · omega
      refine fx_iloadn dX0_append_0 rfl ?_
      refine fx_iconst (nI 1) dX0_append_1 (by decide) ?_
      refine fx_icmp_lt 22 dX0_append_2 (by decide) (fun c2 => absurd c2 (x1)) (fun c2 => ?_)
      refine fx_iloadn dX0_append_5 rfl ?_
      refine fx_bipush (nI 8) dX0_append_6 (by decide) ?_
      refine fx_icmp_gt 22 dX0_append_8 (by decide) (fun c8 => absurd c8 (x8)) (fun c8 => ?_)
      refine fx_iloadn dX0_append_11 rfl ?_
      refine fx_ldc dX0_append_12 qqX0_17 ?_
      refine fx_aloadn dX0_append_14 rfl ?_
      refine fx_get dX0_append_15 ffX0_13 (by assumption) rfl ?_
      refine fx_isub dX0_append_18 ?_
      rw [pk_sub (by omega)]
      refine fx_icmp_le 24 dX0_append_19 (by decide) (fun c19 => absurd c19 (nI_ge hlm (by omega))) (fun c19 => ?_)
      refine fx_iconst (nI 0) dX0_append_22 (by decide) ?_
      refine fx_zret dX0_append_23 rfl rfl ?_
      exact ⟨rfl, rfl⟩
theorem c_dr_append {g : fx_G} {h : fx_H} {a p n len : Nat} {B : Nat → Nat} (H : dr h a p n len B) (v : Int64) (m ms : Nat) (hm1 : 1 ≤ m) (hm8 : m ≤ 8) (hlm : len + m ≤ 131072) (hms : n < len + m → len + m ≤ ms ∧ 2 * n ≤ ms) : fx_Met g mX0_append 3 73 [.ref a, .long v, .int (nI m)] h 1 ms (fun r h' => r = some (.int (nI 1)) ∧ ∃ p' n', dr h' a p' n' (len + m) (ap B len v m) ∧ len + m ≤ n' ∧ (p' = p ∨ h p' = none) ∧ kp (fun x => x = a ∨ x = p) h h' ∧ (n' ≤ n ∨ n' ≤ ms)) := by
  have h1 := H.1
  refine fx_Met.of rfl (Nat.le_of_ble_eq_true rfl) ?_
  refine fx_iloadn dX0_append_0 rfl ?_
  refine fx_iconst (nI 1) dX0_append_1 (by decide) ?_
  refine fx_icmp_lt 22 dX0_append_2 (by decide) (fun c2 => absurd c2 (nI_nlt hm1 (by omega))) (fun c2 => ?_)
  refine fx_iloadn dX0_append_5 rfl ?_
  refine fx_bipush (nI 8) dX0_append_6 (by decide) ?_
  refine fx_icmp_gt 22 dX0_append_8 (by decide) (fun c8 => absurd c8 (nI_nlt hm8 (by decide))) (fun c8 => ?_)
  refine fx_iloadn dX0_append_11 rfl ?_
  refine fx_ldc dX0_append_12 qqX0_17 ?_
  refine fx_aloadn dX0_append_14 rfl ?_
  refine fx_get dX0_append_15 ffX0_13 (by assumption) rfl ?_
  refine fx_isub dX0_append_18 ?_
  rw [pk_sub (by omega)]
  refine fx_icmp_le 24 dX0_append_19 (by decide) (fun c19 => ?_) (fun c19 => absurd (nI_le (by omega) (by omega)) c19)
  refine fx_aloadn dX0_append_24 rfl ?_
  refine fx_aloadn dX0_append_25 rfl ?_
  refine fx_get dX0_append_26 ffX0_13 (by assumption) rfl ?_
  refine fx_iloadn dX0_append_29 rfl ?_
  refine fx_iadd dX0_append_30 ?_
  rw [nI_add]
  refine fx_callV dX0_append_31 vX0_makeRoom kkX0_18 rfl rfl h1 (c_dr_makeRoom H (len + m) ms hlm hms) rfl (by decide) (by decide) (Nat.le_refl _) (Nat.le_refl _) rfl (Nat.le_of_ble_eq_true rfl) (fun r h2 hk => ?_)
  obtain ⟨rfl, p2, n2, hD, hn2, hp2, hkp, hn9⟩ := hk
  show fx_Y g mX0_append 3 73 _ _ 34 _ [] h2 _ _
  refine fx_bipush (nI 8) dX0_append_34 (by decide) ?_
  refine fx_iloadn dX0_append_36 rfl ?_
  refine fx_iconst (nI 1) dX0_append_37 (by decide) ?_
  refine fx_isub dX0_append_38 ?_
  refine fx_imul dX0_append_39 ?_
  rw [pk_sub hm1, pk_mul]
  refine fx_istore dX0_append_40 (by decide) ?_
  refine fx_less (Nat.zero_le _) (Nat.zero_le _) ?_
  refine fx_mono ?_ (fun _ _ q => q) (fx_to (l_dr_append (v := v) (h0 := h2) (B := B) hn2 hm8 m h2 0 (by omega) ⟨hD.1, hD.2.1, hD.2.2.1, ?_⟩ _ rfl kp.rf) ⟨rfl, rfl, ?_, trivial⟩)
  · intro r h' q
    obtain ⟨q1, p', q2, rfl, q3⟩ := q
    refine ⟨q1, p', n2, q2, hn2, hp2, ?_, hn9⟩
    refine hkp.tr q3 (fun x hx hn => ?_)
    rcases hx with e | e
    · exact Or.inl e
    · rcases hp2 with e2 | e2
      · exact Or.inr (e.trans e2)
      · exact absurd (by rw [e]; exact e2) hn
  · obtain ⟨f2, g4, g5, g6⟩ := hD.2.2.2
    refine ⟨f2, g4, fun j hj => ?_, g6⟩
    unfold ap
    rw [if_pos (by omega)]
    exact g5 j hj
  · show some (Value.int (nI (8 * (m - 1)))) = some (Value.int (nI (8 * m) + (-8)))
    rw [show 8 * m = 8 * (m - 1 + 1) by omega, nI_m8]
theorem c_dr_init {g : fx_G} {h : fx_H} {a : Nat} {v0 v1 : Value} (ha : h a = some (.inr (0, [v0, v1]))) : fx_Met g mX0_init 1 30 [.ref a] h 1 64 (fun r h' => r = none ∧ ∃ q, h q = none ∧ dr h' a q 64 0 (fun _ => 0) ∧ kp (fun x => x = a) h h') := by
  refine fx_Met.of rfl (Nat.le_of_ble_eq_true rfl) ?_
  refine fx_aloadn dX0_init_0 rfl ?_
  refine fx_objInit dX0_init_1 ooX0 oo_i oo_c (by decide) (by decide) (Nat.le_of_ble_eq_true rfl) ?_
  refine fx_aloadn dX0_init_4 rfl ?_
  refine fx_bipush (nI 64) dX0_init_5 (by decide) ?_
  refine fx_newIV 1 64 (by decide) rfl dX0_init_7 ac_byte (by decide) (by decide) (by decide) (by decide) (by decide) (fun q h1 hq e1 o1 => ?_)
  have ha1 := (o1 a (ne_new ha hq)).trans ha
  refine fx_putV dX0_init_9 ffX0_7 ha1 rfl rfl (Nat.le_of_ble_eq_true rfl) (fun h2 e2 o2 => ?_)
  refine fx_aloadn dX0_init_12 rfl ?_
  refine fx_iconst (nI 0) dX0_init_13 (by decide) ?_
  refine fx_putV dX0_init_14 ffX0_13 e2 rfl rfl (Nat.le_of_ble_eq_true rfl) (fun h3 e3 o3 => ?_)
  refine fx_vret dX0_init_17 rfl ?_
  have nq : q ≠ a := Ne.symm (ne_new ha hq)
  exact ⟨rfl, q, hq, ⟨e3, Nat.zero_le _, by decide, _, (o3 q nq).trans ((o2 q nq).trans e1), fun j hj => by omega, sb_fit0⟩, kp.put (kp.put (kp.put kp.rf o1 (Or.inr hq)) o2 (Or.inl rfl)) o3 (Or.inl rfl)⟩
