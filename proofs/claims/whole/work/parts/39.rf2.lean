/-! FontDeskModel: its state, and its small methods -/
def ro (F : Nat → (Nat → Nat) × Nat × Int32) : Nat → Nat
  | 0 => 0
  | k + 1 => ro F k + 4 * (F k).2.1
theorem ro_mono {F : Nat → (Nat → Nat) × Nat × Int32} {j k : Nat} (h : j ≤ k) : ro F j ≤ ro F k := by
  induction h with
  | refl => exact Nat.le_refl _
  | step _ ih => exact Nat.le_trans ih (Nat.le_add_right _ _)
def rv (F : Nat → (Nat → Nat) × Nat × Int32) (N : Nat) (B : Nat → Nat) (len : Nat) (fb ff fz : Nat → Int32) : Prop := (∀ k, k ≤ N → ff k = nI (ro F k)) ∧ (∀ k, k < N → fz k = (F k).2.2 ∧ ∀ i, i < 4 * (F k).2.1 → fb (ro F k + i) = nI ((F k).1 i)) ∧ ∀ i, i < len → fb (ro F N + i) = nI (B i)
/-- fonts that were taken -/
def fok (b : Nat → Nat) (nw : Nat) : Prop := ml_v b nw ∧ ml_f3C b ∧ ml_f5 b
def foks (F : Nat → (Nat → Nat) × Nat × Int32) (N : Nat) : Prop := ∀ k, k < N → fok (F k).1 (F k).2.1
def rs (h : fx_H) (m pb pf pz pt pp ph pk pc : Nat) (F : Nat → (Nat → Nat) × Nat × Int32) (N : Nat) (B : Nat → Nat) (len E : Nat) (I : List sg) (T : Int64) (th : Int32) : Prop := ∃ (fb ff fz ft fp fh fk fc : Nat → Int32) (bs : Int32), rx h m pb pf pz pt pp ph pk pc fb ff fz ft fp fh fk fc th len N E bs I.length T ∧ rv F N B len fb ff fz ∧ sl I fk fc ∧ N ≤ 32 ∧ ro F N + len ≤ 4096 ∧ I.length ≤ 1000 ∧ foks F N
theorem rs.at {h : fx_H} {m pb pf pz pt pp ph pk pc N len E : Nat} {F : Nat → (Nat → Nat) × Nat × Int32} {B : Nat → Nat} {I : List sg} {T : Int64} {th : Int32} (H : rs h m pb pf pz pt pp ph pk pc F N B len E I T th) : ∃ fs : List Value, h m = some (.inr (5, fs)) := by
  obtain ⟨fb, ff, fz, ft, fp, fh, fk, fc, bs, E0, -⟩ := H
  exact ⟨_, E0.1⟩
theorem rs.kept {h h' : fx_H} {m pb pf pz pt pp ph pk pc N len E : Nat} {F : Nat → (Nat → Nat) × Nat × Int32} {B : Nat → Nat} {I : List sg} {T : Int64} {th : Int32} (H : rs h m pb pf pz pt pp ph pk pc F N B len E I T th) (k : ∀ q, rC m pb pf pz pt pp ph pk pc q → h' q = h q) : rs h' m pb pf pz pt pp ph pk pc F N B len E I T th := by
  obtain ⟨fb, ff, fz, ft, fp, fh, fk, fc, bs, E0, h1⟩ := H
  exact ⟨fb, ff, fz, ft, fp, fh, fk, fc, bs, E0.kept k, h1⟩
theorem lI_255 (x : Int64) : (x &&& lN 255).toInt32 = nI (x.toInt32.toBitVec.toNat % 256) := by
  rw [Int64.toInt32_and]
  exact pk_and _ 8 (by decide)

theorem p_rs_thrown {g : fx_G} {h : fx_H} {m pb pf pz pt pp ph pk pc N len E : Nat} {F : Nat → (Nat → Nat) × Nat × Int32} {B : Nat → Nat} {I : List sg} {T : Int64} {th : Int32} (H : rs h m pb pf pz pt pp ph pk pc F N B len E I T th) : fx_P g mX6_thrown 0 0 [.ref m] h (.int th) := by
  obtain ⟨fb, ff, fz, ft, fp, fh, fk, fc, bs, E0, hv, hI, hN, hro, hI9, hfk⟩ := H
  obtain ⟨e0, ⟨e1, e2, e3, e4, e5, e6, e7, e8⟩, -⟩ := id E0
  refine fx_Met.of rfl (Nat.le_of_ble_eq_true rfl) ?_
  refine fx_aloadn dX6_thrown_0 rfl ?_
  refine fx_get dX6_thrown_1 ffX6_37 (by assumption) rfl ?_
  refine fx_iret dX6_thrown_4 rfl ?_
  exact ⟨rfl, rfl⟩
theorem c_rs_fails {g : fx_G} {h : fx_H} {m pb pf pz pt pp ph pk pc N len E : Nat} {F : Nat → (Nat → Nat) × Nat × Int32} {B : Nat → Nat} {I : List sg} {T : Int64} {th : Int32} (H : rs h m pb pf pz pt pp ph pk pc F N B len E I T th) (x : Int32) : fx_Met g mX6_fails 0 0 [.ref m, .int x] h 0 0 (fun r h' => r = some (.int (nI 0)) ∧ rs h' m pb pf pz pt pp ph pk pc F N B len E I T x ∧ kp (rC m pb pf pz pt pp ph pk pc) h h') := by
  obtain ⟨fb, ff, fz, ft, fp, fh, fk, fc, bs, E0, hv, hI, hN, hro, hI9, hfk⟩ := H
  obtain ⟨e0, ⟨e1, e2, e3, e4, e5, e6, e7, e8⟩, -⟩ := id E0
  refine fx_Met.of rfl (Nat.le_of_ble_eq_true rfl) ?_
  refine fx_aloadn dX6_fails_0 rfl ?_
  refine fx_iloadn dX6_fails_1 rfl ?_
  refine fx_putV dX6_fails_2 ffX6_37 e0 rfl rfl (Nat.le_of_ble_eq_true rfl) (fun h1 q1 o1 => ?_)
  have E1 : rx h1 m pb pf pz pt pp ph pk pc fb ff fz ft fp fh fk fc x len N E bs I.length T := E0.obj q1 o1
  have k1 := kp.put (kp.rf (S := rC m pb pf pz pt pp ph pk pc)) o1 (Or.inl (Or.inl rfl))
  obtain ⟨e0, ⟨e1, e2, e3, e4, e5, e6, e7, e8⟩, -⟩ := id E1
  refine fx_iconst (nI 0) dX6_fails_5 (by decide) ?_
  refine fx_iret dX6_fails_6 rfl ?_
  exact ⟨rfl, ⟨fb, ff, fz, ft, fp, fh, fk, fc, bs, E1, hv, hI, hN, hro, hI9, hfk⟩, k1⟩
theorem c_rs_fault {g : fx_G} {h : fx_H} {m pb pf pz pt pp ph pk pc N len E : Nat} {F : Nat → (Nat → Nat) × Nat × Int32} {B : Nat → Nat} {I : List sg} {T : Int64} {th : Int32} (H : rs h m pb pf pz pt pp ph pk pc F N B len E I T th) : fx_Met g mX6_fault 0 0 [.ref m] h 0 0 (fun r h' => r = some (.int (nI E)) ∧ rs h' m pb pf pz pt pp ph pk pc F N B len E I T 0 ∧ kp (rC m pb pf pz pt pp ph pk pc) h h') := by
  obtain ⟨fb, ff, fz, ft, fp, fh, fk, fc, bs, E0, hv, hI, hN, hro, hI9, hfk⟩ := H
  obtain ⟨e0, ⟨e1, e2, e3, e4, e5, e6, e7, e8⟩, -⟩ := id E0
  refine fx_Met.of rfl (Nat.le_of_ble_eq_true rfl) ?_
  refine fx_aloadn dX6_fault_0 rfl ?_
  refine fx_iconst (nI 0) dX6_fault_1 (by decide) ?_
  refine fx_putV dX6_fault_2 ffX6_37 e0 rfl rfl (Nat.le_of_ble_eq_true rfl) (fun h1 q1 o1 => ?_)
  have E1 : rx h1 m pb pf pz pt pp ph pk pc fb ff fz ft fp fh fk fc 0 len N E bs I.length T := E0.obj q1 o1
  have k1 := kp.put (kp.rf (S := rC m pb pf pz pt pp ph pk pc)) o1 (Or.inl (Or.inl rfl))
  obtain ⟨e0, ⟨e1, e2, e3, e4, e5, e6, e7, e8⟩, -⟩ := id E1
  refine fx_aloadn dX6_fault_5 rfl ?_
  refine fx_get dX6_fault_6 ffX6_133 (by assumption) rfl ?_
  refine fx_iret dX6_fault_9 rfl ?_
  exact ⟨rfl, ⟨fb, ff, fz, ft, fp, fh, fk, fc, bs, E1, hv, hI, hN, hro, hI9, hfk⟩, k1⟩
theorem c_rs_width {g : fx_G} {h : fx_H} {m pb pf pz pt pp ph pk pc N len E : Nat} {F : Nat → (Nat → Nat) × Nat × Int32} {B : Nat → Nat} {I : List sg} {T : Int64} {th : Int32} (H : rs h m pb pf pz pt pp ph pk pc F N B len E I T th) : fx_Met g mX6_width 0 0 [.ref m] h 0 0 (fun r h' => r = some (.long T) ∧ rs h' m pb pf pz pt pp ph pk pc F N B len E I T 0 ∧ kp (rC m pb pf pz pt pp ph pk pc) h h') := by
  obtain ⟨fb, ff, fz, ft, fp, fh, fk, fc, bs, E0, hv, hI, hN, hro, hI9, hfk⟩ := H
  obtain ⟨e0, ⟨e1, e2, e3, e4, e5, e6, e7, e8⟩, -⟩ := id E0
  refine fx_Met.of rfl (Nat.le_of_ble_eq_true rfl) ?_
  refine fx_aloadn dX6_width_0 rfl ?_
  refine fx_iconst (nI 0) dX6_width_1 (by decide) ?_
  refine fx_putV dX6_width_2 ffX6_37 e0 rfl rfl (Nat.le_of_ble_eq_true rfl) (fun h1 q1 o1 => ?_)
  have E1 : rx h1 m pb pf pz pt pp ph pk pc fb ff fz ft fp fh fk fc 0 len N E bs I.length T := E0.obj q1 o1
  have k1 := kp.put (kp.rf (S := rC m pb pf pz pt pp ph pk pc)) o1 (Or.inl (Or.inl rfl))
  obtain ⟨e0, ⟨e1, e2, e3, e4, e5, e6, e7, e8⟩, -⟩ := id E1
  refine fx_aloadn dX6_width_5 rfl ?_
  refine fx_get dX6_width_6 ffX6_166 (by assumption) rfl ?_
  refine fx_lret dX6_width_9 rfl ?_
  exact ⟨rfl, ⟨fb, ff, fz, ft, fp, fh, fk, fc, bs, E1, hv, hI, hN, hro, hI9, hfk⟩, k1⟩
theorem i_01 {q : Int32} (h0 : ¬ q < 0) (h1 : q ≤ nI 1) (hn : ¬ q = 0) : q = nI 1 := by
  obtain ⟨j, hj, rfl⟩ := nI_of h0
  have h2 := (nI_leI hj (by decide)).mp h1
  have h3 : j ≠ 0 := fun e => hn (by rw [e]; rfl)
  rw [show j = 1 by omega]
theorem i_n01 {q : Int32} (h : q < 0 ∨ ¬ q ≤ nI 1) : ¬ q = nI 0 ∧ ¬ q = nI 1 := by
  constructor
  · intro e
    subst e
    rcases h with h | h
    · exact absurd h (by decide)
    · exact h (by decide)
  · intro e
    subst e
    rcases h with h | h
    · exact absurd h (by decide)
    · exact h (by decide)
theorem c_rs_item {g : fx_G} {h : fx_H} {m pb pf pz pt pp ph pk pc N len E : Nat} {F : Nat → (Nat → Nat) × Nat × Int32} {B : Nat → Nat} {I : List sg} {T : Int64} {th : Int32} (H : rs h m pb pf pz pt pp ph pk pc F N B len E I T th) (k q : Int32) : fx_Met g mX6_item 0 0 [.ref m, .int k, .int q] h 0 0 (fun r h' => r = some (.int (mz_p I k q)) ∧ rs h' m pb pf pz pt pp ph pk pc F N B len E I T 0 ∧ kp (rC m pb pf pz pt pp ph pk pc) h h') := by
  obtain ⟨fb, ff, fz, ft, fp, fh, fk, fc, bs, E0, hv, hI, hN, hro, hI9, hfk⟩ := H
  obtain ⟨e0, ⟨e1, e2, e3, e4, e5, e6, e7, e8⟩, -⟩ := id E0
  refine fx_Met.of rfl (Nat.le_of_ble_eq_true rfl) ?_
  rcases pk_ix k (show I.length < 2 ^ 31 by omega) with hk | hk2 | ⟨j, hj, rfl⟩
  · skip
    refine fx_aloadn dX6_item_0 rfl ?_
    refine fx_iconst (nI 0) dX6_item_1 (by decide) ?_
    refine fx_putV dX6_item_2 ffX6_37 e0 rfl rfl (Nat.le_of_ble_eq_true rfl) (fun h1 q1 o1 => ?_)
    have E1 : rx h1 m pb pf pz pt pp ph pk pc fb ff fz ft fp fh fk fc 0 len N E bs I.length T := E0.obj q1 o1
    have k1 := kp.put (kp.rf (S := rC m pb pf pz pt pp ph pk pc)) o1 (Or.inl (Or.inl rfl))
    obtain ⟨e0, ⟨e1, e2, e3, e4, e5, e6, e7, e8⟩, -⟩ := id E1
    refine fx_iloadn dX6_item_5 rfl ?_
    refine fx_if_lt 26 dX6_item_6 (by decide) (fun c6 => ?_) (fun c6 => absurd (hk) c6)
    refine fx_iconst (-1) dX6_item_26 (by decide) ?_
    refine fx_goto 49 dX6_item_27 (by decide) ?_
    refine fx_iret dX6_item_49 rfl ?_
    exact ⟨by rw [mz_p_neg hk], ⟨fb, ff, fz, ft, fp, fh, fk, fc, bs, E1, hv, hI, hN, hro, hI9, hfk⟩, k1⟩
  · by_cases hk : k < 0
    · exact absurd (show nI 0 ≤ k from Int32.le_trans (nI_le (Nat.zero_le _) (by omega)) hk2) (by show ¬ 0 ≤ k; exact Int32.not_le.mpr hk)
    refine fx_aloadn dX6_item_0 rfl ?_
    refine fx_iconst (nI 0) dX6_item_1 (by decide) ?_
    refine fx_putV dX6_item_2 ffX6_37 e0 rfl rfl (Nat.le_of_ble_eq_true rfl) (fun h1 q1 o1 => ?_)
    have E1 : rx h1 m pb pf pz pt pp ph pk pc fb ff fz ft fp fh fk fc 0 len N E bs I.length T := E0.obj q1 o1
    have k1 := kp.put (kp.rf (S := rC m pb pf pz pt pp ph pk pc)) o1 (Or.inl (Or.inl rfl))
    obtain ⟨e0, ⟨e1, e2, e3, e4, e5, e6, e7, e8⟩, -⟩ := id E1
    refine fx_iloadn dX6_item_5 rfl ?_
    refine fx_if_lt 26 dX6_item_6 (by decide) (fun c6 => absurd c6 (hk)) (fun c6 => ?_)
    refine fx_iloadn dX6_item_9 rfl ?_
    refine fx_aloadn dX6_item_10 rfl ?_
    refine fx_get dX6_item_11 ffX6_145 (by assumption) rfl ?_
    refine fx_icmp_ge 26 dX6_item_14 (by decide) (fun c14 => ?_) (fun c14 => absurd (hk2) c14)
    refine fx_iconst (-1) dX6_item_26 (by decide) ?_
    refine fx_goto 49 dX6_item_27 (by decide) ?_
    refine fx_iret dX6_item_49 rfl ?_
    exact ⟨by rw [mz_p_out hk2 (by omega)], ⟨fb, ff, fz, ft, fp, fh, fk, fc, bs, E1, hv, hI, hN, hro, hI9, hfk⟩, k1⟩
  · have hs : I[j]? = some I[j] := List.getElem?_eq_getElem hj
    have hs2 := hI j _ hs
    refine fx_aloadn dX6_item_0 rfl ?_
    refine fx_iconst (nI 0) dX6_item_1 (by decide) ?_
    refine fx_putV dX6_item_2 ffX6_37 e0 rfl rfl (Nat.le_of_ble_eq_true rfl) (fun h1 q1 o1 => ?_)
    have E1 : rx h1 m pb pf pz pt pp ph pk pc fb ff fz ft fp fh fk fc 0 len N E bs I.length T := E0.obj q1 o1
    have k1 := kp.put (kp.rf (S := rC m pb pf pz pt pp ph pk pc)) o1 (Or.inl (Or.inl rfl))
    obtain ⟨e0, ⟨e1, e2, e3, e4, e5, e6, e7, e8⟩, -⟩ := id E1
    refine fx_iloadn dX6_item_5 rfl ?_
    refine fx_if_lt 26 dX6_item_6 (by decide) (fun c6 => absurd c6 (nI_pos (by omega))) (fun c6 => ?_)
    refine fx_iloadn dX6_item_9 rfl ?_
    refine fx_aloadn dX6_item_10 rfl ?_
    refine fx_get dX6_item_11 ffX6_145 (by assumption) rfl ?_
    refine fx_icmp_ge 26 dX6_item_14 (by decide) (fun c14 => absurd c14 (nI_ge hj (by omega))) (fun c14 => ?_)
    refine fx_iloadn dX6_item_17 rfl ?_
    refine fx_if_lt 26 dX6_item_18 (by decide) (fun c18 => ?_) (fun c18 => ?_)
    · skip
      refine fx_iconst (-1) dX6_item_26 (by decide) ?_
      refine fx_goto 49 dX6_item_27 (by decide) ?_
      refine fx_iret dX6_item_49 rfl ?_
      exact ⟨by rw [mz_p_in hs (by omega), if_neg (i_n01 (Or.inl c18)).1, if_neg (i_n01 (Or.inl c18)).2], ⟨fb, ff, fz, ft, fp, fh, fk, fc, bs, E1, hv, hI, hN, hro, hI9, hfk⟩, k1⟩
    · skip
      refine fx_iloadn dX6_item_21 rfl ?_
      refine fx_iconst (nI 1) dX6_item_22 (by decide) ?_
      refine fx_icmp_le 30 dX6_item_23 (by decide) (fun c23 => ?_) (fun c23 => ?_)
      · skip
        refine fx_iloadn dX6_item_30 rfl ?_
        refine fx_if_ne 43 dX6_item_31 (by decide) (fun c31 => ?_) (fun c31 => ?_)
        · skip
          refine fx_aloadn dX6_item_43 rfl ?_
          refine fx_get dX6_item_44 ffX6_34 (by assumption) rfl ?_
          refine fx_iloadn dX6_item_47 rfl ?_
          refine fx_iald dX6_item_48 e8 (vp_in_nI (show j < 1002 by omega) (by decide)) ?_
          rw [nI_clamp (by omega), hs2.2]
          refine fx_iret dX6_item_49 rfl ?_
          exact ⟨by rw [mz_p_in hs (by omega), if_neg (show ¬ q = nI 0 from c31), if_pos (i_01 c18 c23 c31)], ⟨fb, ff, fz, ft, fp, fh, fk, fc, bs, E1, hv, hI, hN, hro, hI9, hfk⟩, k1⟩
        · skip
          refine fx_aloadn dX6_item_34 rfl ?_
          refine fx_get dX6_item_35 ffX6_31 (by assumption) rfl ?_
          refine fx_iloadn dX6_item_38 rfl ?_
          refine fx_iald dX6_item_39 e7 (vp_in_nI (show j < 1002 by omega) (by decide)) ?_
          rw [nI_clamp (by omega), hs2.1]
          refine fx_goto 49 dX6_item_40 (by decide) ?_
          refine fx_iret dX6_item_49 rfl ?_
          exact ⟨by rw [mz_p_in hs (by omega), if_pos (show q = nI 0 from c31)], ⟨fb, ff, fz, ft, fp, fh, fk, fc, bs, E1, hv, hI, hN, hro, hI9, hfk⟩, k1⟩
      · skip
        refine fx_iconst (-1) dX6_item_26 (by decide) ?_
        refine fx_goto 49 dX6_item_27 (by decide) ?_
        refine fx_iret dX6_item_49 rfl ?_
        exact ⟨by rw [mz_p_in hs (by omega), if_neg (i_n01 (Or.inr c23)).1, if_neg (i_n01 (Or.inr c23)).2], ⟨fb, ff, fz, ft, fp, fh, fk, fc, bs, E1, hv, hI, hN, hro, hI9, hfk⟩, k1⟩
/-- .. with this font's file at hand -/
def rsb (h : fx_H) (m pb pf pz pt pp ph pk pc : Nat) (F : Nat → (Nat → Nat) × Nat × Int32) (N : Nat) (B : Nat → Nat) (len E : Nat) (I : List sg) (T : Int64) (th : Int32) (k : Nat) : Prop := ∃ (fb ff fz ft fp fh fk fc : Nat → Int32), rx h m pb pf pz pt pp ph pk pc fb ff fz ft fp fh fk fc th len N E (nI (ro F k)) I.length T ∧ rv F N B len fb ff fz ∧ sl I fk fc ∧ N ≤ 32 ∧ ro F N + len ≤ 4096 ∧ I.length ≤ 1000 ∧ foks F N
theorem rsb.rs {h : fx_H} {m pb pf pz pt pp ph pk pc N len E : Nat} {F : Nat → (Nat → Nat) × Nat × Int32} {B : Nat → Nat} {I : List sg} {T : Int64} {th : Int32} {k : Nat} (H : rsb h m pb pf pz pt pp ph pk pc F N B len E I T th k) : rs h m pb pf pz pt pp ph pk pc F N B len E I T th := by
  obtain ⟨fb, ff, fz, ft, fp, fh, fk, fc, E0, h1⟩ := H
  exact ⟨fb, ff, fz, ft, fp, fh, fk, fc, _, E0, h1⟩
theorem rsb.D {h : fx_H} {m pb pf pz pt pp ph pk pc N len E : Nat} {F : Nat → (Nat → Nat) × Nat × Int32} {B : Nat → Nat} {I : List sg} {T : Int64} {th : Int32} {k : Nat} (H : rsb h m pb pf pz pt pp ph pk pc F N B len E I T th k) (hk : k < N) : rd h m (F k).1 (4 * (F k).2.1) := by
  obtain ⟨fb, ff, fz, ft, fp, fh, fk, fc, E0, hv, hI, hN, hro, hI9, hfk⟩ := H
  have h1 := ro_mono (F := F) (show k + 1 ≤ N from hk)
  have h2 : ro F (k + 1) = ro F k + 4 * (F k).2.1 := rfl
  exact E0.rD rfl (by omega) (hv.2.1 k hk).2
theorem rsb.at {h : fx_H} {m pb pf pz pt pp ph pk pc N len E : Nat} {F : Nat → (Nat → Nat) × Nat × Int32} {B : Nat → Nat} {I : List sg} {T : Int64} {th : Int32} {k : Nat} (H : rsb h m pb pf pz pt pp ph pk pc F N B len E I T th k) : ∃ fs : List Value, h m = some (.inr (5, fs)) := H.rs.at
theorem c_rs_chooseY {g : fx_G} {h : fx_H} {m pb pf pz pt pp ph pk pc N len E : Nat} {F : Nat → (Nat → Nat) × Nat × Int32} {B : Nat → Nat} {I : List sg} {T : Int64} {th : Int32} (H : rs h m pb pf pz pt pp ph pk pc F N B len E I T th) (k : Nat) (hk : k < N) : fx_Met g mX6_choose 0 0 [.ref m, .int (nI k)] h 0 0 (fun r h' => r = some (.int (nI 1)) ∧ rsb h' m pb pf pz pt pp ph pk pc F N B len E I T th k ∧ kp (rC m pb pf pz pt pp ph pk pc) h h') := by
  obtain ⟨fb, ff, fz, ft, fp, fh, fk, fc, bs, E0, hv, hI, hN, hro, hI9, hfk⟩ := H
  obtain ⟨e0, ⟨e1, e2, e3, e4, e5, e6, e7, e8⟩, -⟩ := id E0
  refine fx_Met.of rfl (Nat.le_of_ble_eq_true rfl) ?_
  refine fx_iloadn dX6_choose_0 rfl ?_
  refine fx_if_lt 16 dX6_choose_1 (by decide) (fun c1 => absurd c1 (nI_pos (by omega))) (fun c1 => ?_)
  refine fx_iloadn dX6_choose_4 rfl ?_
  refine fx_aloadn dX6_choose_5 rfl ?_
  refine fx_get dX6_choose_6 ffX6_45 (by assumption) rfl ?_
  refine fx_icmp_ge 16 dX6_choose_9 (by decide) (fun c9 => absurd c9 (nI_ge hk (by omega))) (fun c9 => ?_)
  refine fx_iconst (nI 1) dX6_choose_12 (by decide) ?_
  refine fx_goto 17 dX6_choose_13 (by decide) ?_
  refine fx_istoren dX6_choose_17 (by decide) ?_
  refine fx_aloadn dX6_choose_18 rfl ?_
  refine fx_iloadn dX6_choose_19 rfl ?_
  refine fx_if_eq 32 dX6_choose_20 (by decide) (fun c20 => absurd c20 (by decide)) (fun c20 => ?_)
  refine fx_aloadn dX6_choose_23 rfl ?_
  refine fx_get dX6_choose_24 ffX6_14 (by assumption) rfl ?_
  refine fx_iloadn dX6_choose_27 rfl ?_
  refine fx_iald dX6_choose_28 e2 (vp_in_nI (show k < 33 by omega) (by decide)) ?_
  rw [nI_clamp (by omega), hv.1 k (by omega)]
  refine fx_goto 33 dX6_choose_29 (by decide) ?_
  refine fx_putV dX6_choose_33 ffX6_50 e0 rfl rfl (Nat.le_of_ble_eq_true rfl) (fun h1 q1 o1 => ?_)
  have E1 : rx h1 m pb pf pz pt pp ph pk pc fb ff fz ft fp fh fk fc th len N E (nI (ro F k)) I.length T := E0.obj q1 o1
  have k1 := kp.put (kp.rf (S := rC m pb pf pz pt pp ph pk pc)) o1 (Or.inl (Or.inl rfl))
  obtain ⟨e0, ⟨e1, e2, e3, e4, e5, e6, e7, e8⟩, -⟩ := id E1
  refine fx_iloadn dX6_choose_36 rfl ?_
  refine fx_zret dX6_choose_37 rfl rfl ?_
  exact ⟨rfl, ⟨fb, ff, fz, ft, fp, fh, fk, fc, E1, hv, hI, hN, hro, hI9, hfk⟩, k1⟩
/-- no such font -/
def noF (N : Nat) (x : Int32) : Prop := x < 0 ∨ nI N ≤ x
theorem noF.or (N : Nat) (x : Int32) (hN : N < 2 ^ 31) : noF N x ∨ ∃ k, k < N ∧ x = nI k := by
  rcases pk_ix x hN with q | q | q
  · exact Or.inl (Or.inl q)
  · exact Or.inl (Or.inr q)
  · exact Or.inr q
theorem c_rs_chooseN {g : fx_G} {h : fx_H} {m pb pf pz pt pp ph pk pc N len E : Nat} {F : Nat → (Nat → Nat) × Nat × Int32} {B : Nat → Nat} {I : List sg} {T : Int64} {th : Int32} (H : rs h m pb pf pz pt pp ph pk pc F N B len E I T th) (x : Int32) (hx : noF N x) : fx_Met g mX6_choose 0 0 [.ref m, .int x] h 0 0 (fun r h' => r = some (.int (nI 0)) ∧ rs h' m pb pf pz pt pp ph pk pc F N B len E I T th ∧ kp (rC m pb pf pz pt pp ph pk pc) h h') := by
  obtain ⟨fb, ff, fz, ft, fp, fh, fk, fc, bs, E0, hv, hI, hN, hro, hI9, hfk⟩ := H
  obtain ⟨e0, ⟨e1, e2, e3, e4, e5, e6, e7, e8⟩, -⟩ := id E0
  refine fx_Met.of rfl (Nat.le_of_ble_eq_true rfl) ?_
  rcases hx with hx | hx
  · skip
    refine fx_iloadn dX6_choose_0 rfl ?_
    refine fx_if_lt 16 dX6_choose_1 (by decide) (fun c1 => ?_) (fun c1 => absurd (hx) c1)
    refine fx_iconst (nI 0) dX6_choose_16 (by decide) ?_
    refine fx_istoren dX6_choose_17 (by decide) ?_
    refine fx_aloadn dX6_choose_18 rfl ?_
    refine fx_iloadn dX6_choose_19 rfl ?_
    refine fx_if_eq 32 dX6_choose_20 (by decide) (fun c20 => ?_) (fun c20 => absurd (by decide) c20)
    refine fx_iconst (nI 0) dX6_choose_32 (by decide) ?_
    refine fx_putV dX6_choose_33 ffX6_50 e0 rfl rfl (Nat.le_of_ble_eq_true rfl) (fun h1 q1 o1 => ?_)
    have E1 : rx h1 m pb pf pz pt pp ph pk pc fb ff fz ft fp fh fk fc th len N E (nI 0) I.length T := E0.obj q1 o1
    have k1 := kp.put (kp.rf (S := rC m pb pf pz pt pp ph pk pc)) o1 (Or.inl (Or.inl rfl))
    obtain ⟨e0, ⟨e1, e2, e3, e4, e5, e6, e7, e8⟩, -⟩ := id E1
    refine fx_iloadn dX6_choose_36 rfl ?_
    refine fx_zret dX6_choose_37 rfl rfl ?_
    exact ⟨rfl, ⟨fb, ff, fz, ft, fp, fh, fk, fc, _, E1, hv, hI, hN, hro, hI9, hfk⟩, k1⟩
  · have hx0 : ¬ x < 0 := fun q => absurd (show nI 0 ≤ x from Int32.le_trans (nI_le (Nat.zero_le _) (by omega)) hx) (by show ¬ 0 ≤ x; exact Int32.not_le.mpr q)
    refine fx_iloadn dX6_choose_0 rfl ?_
    refine fx_if_lt 16 dX6_choose_1 (by decide) (fun c1 => absurd c1 (hx0)) (fun c1 => ?_)
    refine fx_iloadn dX6_choose_4 rfl ?_
    refine fx_aloadn dX6_choose_5 rfl ?_
    refine fx_get dX6_choose_6 ffX6_45 (by assumption) rfl ?_
    refine fx_icmp_ge 16 dX6_choose_9 (by decide) (fun c9 => ?_) (fun c9 => absurd (hx) c9)
    refine fx_iconst (nI 0) dX6_choose_16 (by decide) ?_
    refine fx_istoren dX6_choose_17 (by decide) ?_
    refine fx_aloadn dX6_choose_18 rfl ?_
    refine fx_iloadn dX6_choose_19 rfl ?_
    refine fx_if_eq 32 dX6_choose_20 (by decide) (fun c20 => ?_) (fun c20 => absurd (by decide) c20)
    refine fx_iconst (nI 0) dX6_choose_32 (by decide) ?_
    refine fx_putV dX6_choose_33 ffX6_50 e0 rfl rfl (Nat.le_of_ble_eq_true rfl) (fun h1 q1 o1 => ?_)
    have E1 : rx h1 m pb pf pz pt pp ph pk pc fb ff fz ft fp fh fk fc th len N E (nI 0) I.length T := E0.obj q1 o1
    have k1 := kp.put (kp.rf (S := rC m pb pf pz pt pp ph pk pc)) o1 (Or.inl (Or.inl rfl))
    obtain ⟨e0, ⟨e1, e2, e3, e4, e5, e6, e7, e8⟩, -⟩ := id E1
    refine fx_iloadn dX6_choose_36 rfl ?_
    refine fx_zret dX6_choose_37 rfl rfl ?_
    exact ⟨rfl, ⟨fb, ff, fz, ft, fp, fh, fk, fc, _, E1, hv, hI, hN, hro, hI9, hfk⟩, k1⟩
def m9_ (n : Nat) : Int32 := match n with
  | 0 => -1
  | j + 1 => nI j
theorem m9_0 (n : Nat) : m9_ n = m9_ n := rfl
theorem l_rs_put {g : fx_G} {h0 : fx_H} {m pb pf pz pt pp ph pk pc N len E m9 : Nat} {F : Nat → (Nat → Nat) × Nat × Int32} {B : Nat → Nat} {I : List sg} {T : Int64} {ff fz ft fp fh fk fc : Nat → Int32} {bs : Int32} {v : Int64} (hm8 : m9 ≤ 8) : ∀ (n : Nat) (h : fx_H) (i : Nat) (fb : Nat → Int32), i + n = m9 → rx h m pb pf pz pt pp ph pk pc fb ff fz ft fp fh fk fc 0 (len + i) N E bs I.length T → (∀ k, k ≤ N → ff k = nI (ro F k)) → (∀ k, k < N → fz k = (F k).2.2 ∧ ∀ i, i < 4 * (F k).2.1 → fb (ro F k + i) = nI ((F k).1 i)) → (∀ j, j < len + i → fb (ro F N + j) = nI (ap B len v m9 j)) → sl I fk fc → N ≤ 32 → ro F N + (len + m9) ≤ 4096 → I.length ≤ 1000 → foks F N → ∀ x : Int32, x = m9_ n → kp (rC m pb pf pz pt pp ph pk pc) h0 h → fx_Y g mX6_put 0 0 (fun r h' => r = some (.int (nI 1)) ∧ rs h' m pb pf pz pt pp ph pk pc F N (ap B len v m9) (len + m9) E I T 0 ∧ kp (rC m pb pf pz pt pp ph pk pc) h0 h') (fun _ _ => False) 34 [(0, .ref m), (1, .long v), (4, .int x)] [] h 0 0 := by
  intro n
  induction n with
  | zero =>
    intro h i fb hn E0 hff hfz hfb hI hN hro hI9 hfk x hx hk
    subst hx
    obtain ⟨e0, ⟨e1, e2, e3, e4, e5, e6, e7, e8⟩, -⟩ := id E0
    show fx_Y _ _ _ _ _ _ _ [(0, .ref m), (1, .long v), (4, .int (-1))] _ _ _ _
    refine fx_iload dX6_put_34 rfl ?_
    refine fx_if_lt 86 dX6_put_36 (by decide) (fun c36 => ?_) (fun c36 => absurd (by decide) c36)
    refine fx_iconst (nI 1) dX6_put_86 (by decide) ?_
    refine fx_zret dX6_put_87 rfl rfl ?_
    have hi : i = m9 := by omega
    subst hi
    exact ⟨rfl, ⟨fb, ff, fz, ft, fp, fh, fk, fc, bs, E0, ⟨hff, hfz, hfb⟩, hI, hN, by omega, hI9, hfk⟩, hk⟩
  | succ j ih =>
    intro h i fb hn E0 hff hfz hfb hI hN hro hI9 hfk x hx hk
    subst hx
    obtain ⟨e0, ⟨e1, e2, e3, e4, e5, e6, e7, e8⟩, -⟩ := id E0
    show fx_Y _ _ _ _ _ _ _ [(0, .ref m), (1, .long v), (4, .int (nI j))] _ _ _ _
    refine fx_iload dX6_put_34 rfl ?_
    refine fx_if_lt 86 dX6_put_36 (by decide) (fun c36 => absurd c36 (nI_pos (by omega))) (fun c36 => ?_)
    refine fx_aloadn dX6_put_39 rfl ?_
    refine fx_get dX6_put_40 ffX6_8 (by assumption) rfl ?_
    refine fx_aloadn dX6_put_43 rfl ?_
    refine fx_get dX6_put_44 ffX6_14 (by assumption) rfl ?_
    refine fx_aloadn dX6_put_47 rfl ?_
    refine fx_get dX6_put_48 ffX6_45 (by assumption) rfl ?_
    refine fx_iald dX6_put_51 e2 (vp_in_nI (show N < 33 by omega) (by decide)) ?_
    rw [nI_clamp (by omega), hff N (Nat.le_refl _)]
    refine fx_aloadn dX6_put_52 rfl ?_
    refine fx_get dX6_put_53 ffX6_41 (by assumption) rfl ?_
    refine fx_iadd dX6_put_56 ?_
    refine fx_lloadn dX6_put_57 rfl ?_
    refine fx_bipush (nI 8) dX6_put_58 (by decide) ?_
    refine fx_iload dX6_put_60 rfl ?_
    refine fx_imul dX6_put_62 ?_
    refine fx_lshr dX6_put_63 ?_
    refine fx_ldc2 dX6_put_64 qqX6_48 ?_
    refine fx_land dX6_put_67 ?_
    refine fx_l2i dX6_put_68 ?_
    rw [nI_add, pk_mul, lI_255, show (v >>> ((nI (8 * j)).toInt64 &&& 63)).toInt32.toBitVec.toNat % 256 = vb v j from rfl]
    refine fx_iastV dX6_put_69 e1 (vp_in_nI (show ro F N + (len + i) < 40000 by omega) (by decide)) (fun h1 q1 o1 => ?_)
    rw [nI_clamp (by omega)] at q1
    have E1 := E0.fb q1 o1
    have k1 := kp.put hk o1 (Or.inl (Or.inr (Or.inl rfl)))
    obtain ⟨e0, ⟨e1, e2, e3, e4, e5, e6, e7, e8⟩, -⟩ := id E1
    refine fx_aloadn dX6_put_70 rfl ?_
    refine fx_dup dX6_put_71 rfl ?_
    refine fx_get dX6_put_72 ffX6_41 (by assumption) rfl ?_
    refine fx_iconst (nI 1) dX6_put_75 (by decide) ?_
    refine fx_iadd dX6_put_76 ?_
    rw [nI_add]
    refine fx_putV dX6_put_77 ffX6_41 e0 rfl rfl (Nat.le_of_ble_eq_true rfl) (fun h2 q2 o2 => ?_)
    have E2 : rx h2 m pb pf pz pt pp ph pk pc (upd fb (ro F N + (len + i)) (nI (vb v j))) ff fz ft fp fh fk fc 0 (len + i + 1) N E bs I.length T := E1.obj q2 o2
    have k2 := kp.put k1 o2 (Or.inl (Or.inl rfl))
    obtain ⟨e0, ⟨e1, e2, e3, e4, e5, e6, e7, e8⟩, -⟩ := id E2
    refine fx_iinc (-1) dX6_put_80 rfl (by decide) (by decide) ?_
    refine fx_goto 34 dX6_put_83 (by decide) ?_
    refine fx_to (ih h2 (i + 1) _ (by omega) E2 hff (fun k hk => ⟨(hfz k hk).1, fun q hq => ?_⟩) (fun q hq => ?_) hI hN hro hI9 hfk _ (m9_0 j) k2) ⟨rfl, rfl, ?_, trivial⟩
    · have h1 := ro_mono (F := F) (show k + 1 ≤ N from hk)
      have h2 : ro F (k + 1) = ro F k + 4 * (F k).2.1 := rfl
      rw [pk_un (by omega)]
      exact (hfz k hk).2 q hq
    · by_cases e : q = len + i
      · rw [e, pk_us]
        unfold ap
        rw [if_neg (by omega), show m9 - 1 - (len + i - len) = j by omega]
      · rw [pk_un (by omega)]
        exact hfb q (by omega)
    · show some (Value.int (nI j + (-1))) = _
      cases j with
      | zero => rfl
      | succ n => rw [pk_m1]; rfl
theorem c_rs_put {g : fx_G} {h : fx_H} {m pb pf pz pt pp ph pk pc N len E : Nat} {F : Nat → (Nat → Nat) × Nat × Int32} {B : Nat → Nat} {I : List sg} {T : Int64} {th : Int32} (H : rs h m pb pf pz pt pp ph pk pc F N B len E I T th) (v : Int64) (m9 : Nat) (hm1 : 1 ≤ m9) (hm8 : m9 ≤ 8) (hlm : ro F N + (len + m9) ≤ 4096) : fx_Met g mX6_put 0 0 [.ref m, .long v, .int (nI m9)] h 0 0 (fun r h' => r = some (.int (nI 1)) ∧ rs h' m pb pf pz pt pp ph pk pc F N (ap B len v m9) (len + m9) E I T 0 ∧ kp (rC m pb pf pz pt pp ph pk pc) h h') := by
  obtain ⟨fb, ff, fz, ft, fp, fh, fk, fc, bs, E0, hv, hI, hN, hro, hI9, hfk⟩ := H
  obtain ⟨e0, ⟨e1, e2, e3, e4, e5, e6, e7, e8⟩, -⟩ := id E0
  refine fx_Met.of rfl (Nat.le_of_ble_eq_true rfl) ?_
  refine fx_aloadn dX6_put_0 rfl ?_
  refine fx_iconst (nI 0) dX6_put_1 (by decide) ?_
  refine fx_putV dX6_put_2 ffX6_37 e0 rfl rfl (Nat.le_of_ble_eq_true rfl) (fun h1 q1 o1 => ?_)
  have E1 : rx h1 m pb pf pz pt pp ph pk pc fb ff fz ft fp fh fk fc 0 len N E bs I.length T := E0.obj q1 o1
  have k1 := kp.put (kp.rf (S := rC m pb pf pz pt pp ph pk pc)) o1 (Or.inl (Or.inl rfl))
  obtain ⟨e0, ⟨e1, e2, e3, e4, e5, e6, e7, e8⟩, -⟩ := id E1
  refine fx_iloadn dX6_put_5 rfl ?_
  refine fx_iconst (nI 1) dX6_put_6 (by decide) ?_
  refine fx_icmp_lt 27 dX6_put_7 (by decide) (fun c7 => absurd c7 (nI_nlt hm1 (by omega))) (fun c7 => ?_)
  refine fx_iloadn dX6_put_10 rfl ?_
  refine fx_bipush (nI 8) dX6_put_11 (by decide) ?_
  refine fx_icmp_gt 27 dX6_put_13 (by decide) (fun c13 => absurd c13 (nI_nlt hm8 (by decide))) (fun c13 => ?_)
  refine fx_aloadn dX6_put_16 rfl ?_
  refine fx_get dX6_put_17 ffX6_41 (by assumption) rfl ?_
  refine fx_iloadn dX6_put_20 rfl ?_
  refine fx_iadd dX6_put_21 ?_
  refine fx_ldc dX6_put_22 qqX6_44 ?_
  rw [nI_add]
  refine fx_icmp_le 29 dX6_put_24 (by decide) (fun c24 => ?_) (fun c24 => absurd (nI_le (show len + m9 ≤ 131072 by omega) (by decide)) c24)
  refine fx_iloadn dX6_put_29 rfl ?_
  refine fx_iconst (nI 1) dX6_put_30 (by decide) ?_
  refine fx_isub dX6_put_31 ?_
  refine fx_istore dX6_put_32 (by decide) ?_
  refine fx_to (l_rs_put (h0 := h) (v := v) (F := F) (B := B) (I := I) hm8 m9 h1 0 fb (by omega) E1 hv.1 (fun k hk => hv.2.1 k hk) (fun j hj => ?_) hI hN (by omega) hI9 hfk _ (m9_0 m9) k1) ⟨rfl, rfl, ?_, trivial⟩
  · rw [hv.2.2 j (by omega)]
    unfold ap
    rw [if_pos (by omega)]
  · show some (Value.int (nI m9 - nI 1)) = _
    rw [pk_sub hm1]
    cases m9 with
    | zero => omega
    | succ n => rfl
theorem c_rs_putN {g : fx_G} {h : fx_H} {m pb pf pz pt pp ph pk pc N len E : Nat} {F : Nat → (Nat → Nat) × Nat × Int32} {B : Nat → Nat} {I : List sg} {T : Int64} {th : Int32} (H : rs h m pb pf pz pt pp ph pk pc F N B len E I T th) (v : Int64) (x : Int32) (hx : ¬ putOk len x) : fx_Met g mX6_put 0 0 [.ref m, .long v, .int x] h 0 0 (fun r h' => r = some (.int (nI 0)) ∧ rs h' m pb pf pz pt pp ph pk pc F N B len E I T 0 ∧ kp (rC m pb pf pz pt pp ph pk pc) h h') := by
  obtain ⟨fb, ff, fz, ft, fp, fh, fk, fc, bs, E0, hv, hI, hN, hro, hI9, hfk⟩ := H
  obtain ⟨e0, ⟨e1, e2, e3, e4, e5, e6, e7, e8⟩, -⟩ := id E0
  refine fx_Met.of rfl (Nat.le_of_ble_eq_true rfl) ?_
  refine fx_aloadn dX6_put_0 rfl ?_
  refine fx_iconst (nI 0) dX6_put_1 (by decide) ?_
  refine fx_putV dX6_put_2 ffX6_37 e0 rfl rfl (Nat.le_of_ble_eq_true rfl) (fun h1 q1 o1 => ?_)
  have E1 : rx h1 m pb pf pz pt pp ph pk pc fb ff fz ft fp fh fk fc 0 len N E bs I.length T := E0.obj q1 o1
  have k1 := kp.put (kp.rf (S := rC m pb pf pz pt pp ph pk pc)) o1 (Or.inl (Or.inl rfl))
  obtain ⟨e0, ⟨e1, e2, e3, e4, e5, e6, e7, e8⟩, -⟩ := id E1
  refine fx_iloadn dX6_put_5 rfl ?_
  refine fx_iconst (nI 1) dX6_put_6 (by decide) ?_
  refine fx_icmp_lt 27 dX6_put_7 (by decide) (fun c7 => ?_) (fun c7 => ?_)
  · skip
    refine fx_iconst (nI 0) dX6_put_27 (by decide) ?_
    refine fx_zret dX6_put_28 rfl rfl ?_
    exact ⟨rfl, ⟨fb, ff, fz, ft, fp, fh, fk, fc, bs, E1, hv, hI, hN, hro, hI9, hfk⟩, k1⟩
  · skip
    refine fx_iloadn dX6_put_10 rfl ?_
    refine fx_bipush (nI 8) dX6_put_11 (by decide) ?_
    refine fx_icmp_gt 27 dX6_put_13 (by decide) (fun c13 => ?_) (fun c13 => ?_)
    · skip
      refine fx_iconst (nI 0) dX6_put_27 (by decide) ?_
      refine fx_zret dX6_put_28 rfl rfl ?_
      exact ⟨rfl, ⟨fb, ff, fz, ft, fp, fh, fk, fc, bs, E1, hv, hI, hN, hro, hI9, hfk⟩, k1⟩
    · skip
      refine fx_aloadn dX6_put_16 rfl ?_
      refine fx_get dX6_put_17 ffX6_41 (by assumption) rfl ?_
      refine fx_iloadn dX6_put_20 rfl ?_
      refine fx_iadd dX6_put_21 ?_
      refine fx_ldc dX6_put_22 qqX6_44 ?_
      refine fx_icmp_le 29 dX6_put_24 (by decide) (fun c24 => ?_) (fun c24 => ?_)
      · skip
        refine fx_iloadn dX6_put_29 rfl ?_
        refine fx_iconst (nI 1) dX6_put_30 (by decide) ?_
        refine fx_isub dX6_put_31 ?_
        refine fx_istore dX6_put_32 (by decide) ?_
        exfalso
        have hx1 : ¬ x < 0 := fun q => c7 (Int32.lt_trans q (by decide))
        obtain ⟨j, hj, rfl⟩ := nI_of hx1
        have h1 : ¬ j < 1 := fun q => c7 ((nI_ltI hj (by decide)).mpr q)
        have h2 : ¬ 8 < j := fun q => c13 ((nI_ltI (by decide) hj).mpr q)
        exact hx ⟨j, by omega, by omega, by omega, rfl⟩
      · skip
        refine fx_iconst (nI 0) dX6_put_27 (by decide) ?_
        refine fx_zret dX6_put_28 rfl rfl ?_
        exact ⟨rfl, ⟨fb, ff, fz, ft, fp, fh, fk, fc, bs, E1, hv, hI, hN, hro, hI9, hfk⟩, k1⟩
