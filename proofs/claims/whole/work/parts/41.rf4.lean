/-! FontDeskModel: count, load -/
theorem cc_lo {b : Nat → Nat} : ∀ c, c ≤ ml_H b 2 → ml_cc b c = 0 := by
  intro c
  induction c with
  | zero => intro _; rfl
  | succ c ih =>
    intro h
    show ml_cc b c + (if ml_i b c = 0 then 0 else 1) = 0
    rw [ih (by omega), if_pos (ml_i_out (Or.inl (by omega)))]
theorem cc_hi {b : Nat → Nat} : ∀ n, ml_cc b (ml_H b 3 + 1 + n) = ml_cc b (ml_H b 3 + 1) := by
  intro n
  induction n with
  | zero => rfl
  | succ n ih =>
    show ml_cc b (ml_H b 3 + 1 + n) + (if ml_i b (ml_H b 3 + 1 + n) = 0 then 0 else 1) = _
    rw [ih, if_pos (ml_i_out (Or.inr (by omega))), Nat.add_zero]

theorem l_rs_count {g : fx_G} {h : fx_H} {m lim nw : Nat} {b : Nat → Nat} (D : rd h m b lim) (V : ml_v b nw) (hl : 4 * nw ≤ lim) (x : Int32) (K : Option Value → fx_H → Prop) (J : ∀ lv : List (Nat × Value), fx_le [(0, .ref m), (1, .int x), (3, .int (nI (ml_cc b 256)))] lv → fx_Y g mX6_count 7 151 K (fun _ _ => False) 103 lv [] h 0 0) : ∀ n c : Nat, ml_H b 2 ≤ c → c + n = ml_H b 3 + 1 → fx_Y g mX6_count 7 151 K (fun _ _ => False) 70 [(0, .ref m), (1, .int x), (3, .int (nI (ml_cc b c))), (4, .int (nI c))] [] h 0 0 := by
  obtain ⟨fs, h1⟩ := D.at
  have hs := V.six
  have hq3 : ml_H b 3 ≤ 255 := V.2.2.2.2.2.2.2.1
  intro n
  induction n using Nat.strongRecOn with
  | ind n ih =>
  intro c hc2 hn
  have hcl := ml_cc_le b c
  by_cases hn0 : n = 0
  · skip
    refine fx_iload dX6_count_70 rfl ?_
    refine fx_aloadn dX6_count_72 rfl ?_
    refine fx_iconst (nI 3) dX6_count_73 (by decide) ?_
    refine fx_callVp dX6_count_74 vX6_half kkX6_57 rfl rfl (by assumption) (p_rf_half D 3 (by omega)) rfl (by decide) (by decide) rfl (Nat.le_of_ble_eq_true rfl) ?_
    refine fx_icmp_gt 103 dX6_count_77 (by decide) (fun c77 => ?_) (fun c77 => absurd (nI_lt (show ml_H b 3 < c by omega) (by omega)) c77)
    refine J _ ⟨rfl, rfl, ?_, trivial⟩
    show some (Value.int (nI (ml_cc b c))) = _
    rw [show c = ml_H b 3 + 1 by omega, show (256 : Nat) = ml_H b 3 + 1 + (255 - ml_H b 3) by omega, cc_hi]
  · by_cases hc0 : ml_i b c = 0
    · skip
      refine fx_iload dX6_count_70 rfl ?_
      refine fx_aloadn dX6_count_72 rfl ?_
      refine fx_iconst (nI 3) dX6_count_73 (by decide) ?_
      refine fx_callVp dX6_count_74 vX6_half kkX6_57 rfl rfl (by assumption) (p_rf_half D 3 (by omega)) rfl (by decide) (by decide) rfl (Nat.le_of_ble_eq_true rfl) ?_
      refine fx_icmp_gt 103 dX6_count_77 (by decide) (fun c77 => absurd c77 (nI_nlt (show c ≤ ml_H b 3 by omega) (by omega))) (fun c77 => ?_)
      refine fx_iloadn dX6_count_80 rfl ?_
      refine fx_aloadn dX6_count_81 rfl ?_
      refine fx_iload dX6_count_82 rfl ?_
      refine fx_callVp dX6_count_84 vX6_isThere kkX6_76 rfl rfl (by assumption) (p_rf_isThere D V hl _) rfl (by decide) (by decide) rfl (Nat.le_of_ble_eq_true rfl) ?_
      refine fx_if_eq 94 dX6_count_87 (by decide) (fun c87 => ?_) (fun c87 => absurd (bI_0.mpr (fun z => z (by rw [ml_iI_n (by omega)]; exact hc0))) c87)
      refine fx_iconst (nI 0) dX6_count_94 (by decide) ?_
      refine fx_iadd dX6_count_95 ?_
      refine fx_istoren dX6_count_96 (by decide) ?_
      refine fx_iinc (nI 1) dX6_count_97 rfl (by decide) (by decide) ?_
      refine fx_goto 70 dX6_count_100 (by decide) ?_
      simp only [nI_add]
      refine fx_to (ih (n - 1) (by omega) (c + 1) (by omega) (by omega)) ⟨rfl, rfl, ?_, rfl, trivial⟩
      show some (Value.int (nI _)) = some (Value.int (nI (ml_cc b c + (if ml_i b c = 0 then 0 else 1))))
      rw [if_pos hc0]
    · skip
      refine fx_iload dX6_count_70 rfl ?_
      refine fx_aloadn dX6_count_72 rfl ?_
      refine fx_iconst (nI 3) dX6_count_73 (by decide) ?_
      refine fx_callVp dX6_count_74 vX6_half kkX6_57 rfl rfl (by assumption) (p_rf_half D 3 (by omega)) rfl (by decide) (by decide) rfl (Nat.le_of_ble_eq_true rfl) ?_
      refine fx_icmp_gt 103 dX6_count_77 (by decide) (fun c77 => absurd c77 (nI_nlt (show c ≤ ml_H b 3 by omega) (by omega))) (fun c77 => ?_)
      refine fx_iloadn dX6_count_80 rfl ?_
      refine fx_aloadn dX6_count_81 rfl ?_
      refine fx_iload dX6_count_82 rfl ?_
      refine fx_callVp dX6_count_84 vX6_isThere kkX6_76 rfl rfl (by assumption) (p_rf_isThere D V hl _) rfl (by decide) (by decide) rfl (Nat.le_of_ble_eq_true rfl) ?_
      refine fx_if_eq 94 dX6_count_87 (by decide) (fun c87 => absurd c87 (bI_n0.mpr (by rw [ml_iI_n (by omega)]; exact hc0))) (fun c87 => ?_)
      refine fx_iconst (nI 1) dX6_count_90 (by decide) ?_
      refine fx_goto 95 dX6_count_91 (by decide) ?_
      refine fx_iadd dX6_count_95 ?_
      refine fx_istoren dX6_count_96 (by decide) ?_
      refine fx_iinc (nI 1) dX6_count_97 rfl (by decide) (by decide) ?_
      refine fx_goto 70 dX6_count_100 (by decide) ?_
      simp only [nI_add]
      refine fx_to (ih (n - 1) (by omega) (c + 1) (by omega) (by omega)) ⟨rfl, rfl, ?_, rfl, trivial⟩
      show some (Value.int (nI _)) = some (Value.int (nI (ml_cc b c + (if ml_i b c = 0 then 0 else 1))))
      rw [if_neg hc0]
/-- what count answers -/
def ml_ct (F : Nat → (Nat → Nat) × Nat × Int32) (N len : Nat) (x : Int32) : Int32 := if x = nI 0 then nI N else if x = nI 1 then nI len else if x < 0 ∨ nI 6 ≤ x then -1 else if N = 0 then nI 0 else ml_ty (F (N - 1)).1 (F (N - 1)).2.1 (F (N - 1)).2.2 x.toNatClampNeg
theorem l_rs_cnt2 {g : fx_G} {h : fx_H} {m pb pf pz pt pp ph pk pc N len E : Nat} {F : Nat → (Nat → Nat) × Nat × Int32} {B : Nat → Nat} {I : List sg} {T : Int64} {th : Int32} (H : rsb h m pb pf pz pt pp ph pk pc F N B len E I T th (N - 1)) (hN1 : N - 1 < N) (q : Nat) (hq2 : 2 ≤ q) (hq : q < 6) {K : Option Value → fx_H → Prop} (J : ∀ v : Int32, v = ml_ty (F (N - 1)).1 (F (N - 1)).2.1 (F (N - 1)).2.2 q → K (some (.int v)) h) : fx_Y g mX6_count 7 151 K (fun _ _ => False) 103 [(0, .ref m), (1, .int (nI q)), (3, .int (nI (ml_cc (F (N - 1)).1 256)))] [] h 0 0 := by
  have D := H.D hN1
  obtain ⟨fb, ff, fz, ft, fp, fh, fk, fc, E0, hv, hI, hN, hro, hI9, hfk⟩ := id H
  obtain ⟨e0, ⟨e1, e2, e3, e4, e5, e6, e7, e8⟩, -⟩ := id E0
  have V := (hfk _ hN1).1
  have hs9 := V.six
  have h9 : q = 2 ∨ q = 3 ∨ q = 4 ∨ q = 5 := by omega
  rcases h9 with rfl | rfl | rfl | rfl
  · skip
    refine fx_iloadn dX6_count_103 rfl ?_
    refine fx_iconst (nI 2) dX6_count_104 (by decide) ?_
    refine fx_icmp_ne 116 dX6_count_105 (by decide) (fun c105 => absurd (rfl) c105) (fun c105 => ?_)
    refine fx_aloadn dX6_count_108 rfl ?_
    refine fx_iconst (nI 0) dX6_count_109 (by decide) ?_
    refine fx_callVp dX6_count_110 vX6_half kkX6_57 rfl rfl (by assumption) (p_rf_half D 0 (by omega)) rfl (by decide) (by decide) rfl (Nat.le_of_ble_eq_true rfl) ?_
    refine fx_goto 148 dX6_count_113 (by decide) ?_
    refine fx_iret dX6_count_148 rfl ?_
    exact J _ (by show _ = nI _; rw [V.nw.2])
  · skip
    refine fx_iloadn dX6_count_103 rfl ?_
    refine fx_iconst (nI 2) dX6_count_104 (by decide) ?_
    refine fx_icmp_ne 116 dX6_count_105 (by decide) (fun c105 => ?_) (fun c105 => absurd c105 (by decide))
    refine fx_iloadn dX6_count_116 rfl ?_
    refine fx_iconst (nI 3) dX6_count_117 (by decide) ?_
    refine fx_icmp_ne 125 dX6_count_118 (by decide) (fun c118 => absurd (rfl) c118) (fun c118 => ?_)
    refine fx_iloadn dX6_count_121 rfl ?_
    refine fx_goto 148 dX6_count_122 (by decide) ?_
    refine fx_iret dX6_count_148 rfl ?_
    exact J _ rfl
  · skip
    refine fx_iloadn dX6_count_103 rfl ?_
    refine fx_iconst (nI 2) dX6_count_104 (by decide) ?_
    refine fx_icmp_ne 116 dX6_count_105 (by decide) (fun c105 => ?_) (fun c105 => absurd c105 (by decide))
    refine fx_iloadn dX6_count_116 rfl ?_
    refine fx_iconst (nI 3) dX6_count_117 (by decide) ?_
    refine fx_icmp_ne 125 dX6_count_118 (by decide) (fun c118 => ?_) (fun c118 => absurd c118 (by decide))
    refine fx_iloadn dX6_count_125 rfl ?_
    refine fx_iconst (nI 4) dX6_count_126 (by decide) ?_
    refine fx_icmp_ne 144 dX6_count_127 (by decide) (fun c127 => absurd (rfl) c127) (fun c127 => ?_)
    refine fx_aloadn dX6_count_130 rfl ?_
    refine fx_get dX6_count_131 ffX6_17 (by assumption) rfl ?_
    refine fx_aloadn dX6_count_134 rfl ?_
    refine fx_get dX6_count_135 ffX6_45 (by assumption) rfl ?_
    refine fx_iconst (nI 1) dX6_count_138 (by decide) ?_
    refine fx_isub dX6_count_139 ?_
    rw [pk_sub (by omega)]
    refine fx_iald dX6_count_140 e3 (vp_in_nI (show N - 1 < 32 by omega) (by decide)) ?_
    rw [nI_clamp (by omega), (hv.2.1 _ hN1).1]
    refine fx_goto 148 dX6_count_141 (by decide) ?_
    refine fx_iret dX6_count_148 rfl ?_
    exact J _ rfl
  · skip
    refine fx_iloadn dX6_count_103 rfl ?_
    refine fx_iconst (nI 2) dX6_count_104 (by decide) ?_
    refine fx_icmp_ne 116 dX6_count_105 (by decide) (fun c105 => ?_) (fun c105 => absurd c105 (by decide))
    refine fx_iloadn dX6_count_116 rfl ?_
    refine fx_iconst (nI 3) dX6_count_117 (by decide) ?_
    refine fx_icmp_ne 125 dX6_count_118 (by decide) (fun c118 => ?_) (fun c118 => absurd c118 (by decide))
    refine fx_iloadn dX6_count_125 rfl ?_
    refine fx_iconst (nI 4) dX6_count_126 (by decide) ?_
    refine fx_icmp_ne 144 dX6_count_127 (by decide) (fun c127 => ?_) (fun c127 => absurd c127 (by decide))
    refine fx_aloadn dX6_count_144 rfl ?_
    refine fx_callVp dX6_count_145 vX6_boundary kkX6_91 rfl rfl (by assumption) (p_rf_boundary D V (Nat.le_refl _)) rfl (by decide) (by decide) rfl (Nat.le_of_ble_eq_true rfl) ?_
    refine fx_iret dX6_count_148 rfl ?_
    exact J _ rfl
theorem c_rs_count {g : fx_G} {h : fx_H} {m pb pf pz pt pp ph pk pc N len E : Nat} {F : Nat → (Nat → Nat) × Nat × Int32} {B : Nat → Nat} {I : List sg} {T : Int64} {th : Int32} (H : rs h m pb pf pz pt pp ph pk pc F N B len E I T th) (x : Int32) : fx_Met g mX6_count 7 151 [.ref m, .int x] h 0 0 (fun r h' => r = some (.int (ml_ct F N len x)) ∧ rs h' m pb pf pz pt pp ph pk pc F N B len E I T 0 ∧ kp (rC m pb pf pz pt pp ph pk pc) h h') := by
  obtain ⟨fb, ff, fz, ft, fp, fh, fk, fc, bs, E0, hv, hI, hN, hro, hI9, hfk⟩ := H
  obtain ⟨e0, ⟨e1, e2, e3, e4, e5, e6, e7, e8⟩, -⟩ := id E0
  refine fx_Met.of rfl (Nat.le_of_ble_eq_true rfl) ?_
  rcases pk_ix x (show 6 < 2 ^ 31 by decide) with hx | hx | ⟨q, hq, rfl⟩
  · have hx0 : ¬ x = nI 0 := fun z => by rw [z] at hx; exact absurd hx (by decide)
    have hx1 : ¬ x = nI 1 := fun z => by rw [z] at hx; exact absurd hx (by decide)
    refine fx_aloadn dX6_count_0 rfl ?_
    refine fx_iconst (nI 0) dX6_count_1 (by decide) ?_
    refine fx_putV dX6_count_2 ffX6_37 e0 rfl rfl (Nat.le_of_ble_eq_true rfl) (fun h1 q1 o1 => ?_)
    have E1 : rx h1 m pb pf pz pt pp ph pk pc fb ff fz ft fp fh fk fc 0 len N E bs I.length T := E0.obj q1 o1
    have k1 := kp.put (kp.rf (S := rC m pb pf pz pt pp ph pk pc)) o1 (Or.inl (Or.inl rfl))
    obtain ⟨e0, ⟨e1, e2, e3, e4, e5, e6, e7, e8⟩, -⟩ := id E1
    refine fx_iloadn dX6_count_5 rfl ?_
    refine fx_if_eq 14 dX6_count_6 (by decide) (fun c6 => absurd c6 (hx0)) (fun c6 => ?_)
    refine fx_iloadn dX6_count_9 rfl ?_
    refine fx_iconst (nI 1) dX6_count_10 (by decide) ?_
    refine fx_icmp_ne 30 dX6_count_11 (by decide) (fun c11 => ?_) (fun c11 => absurd c11 (hx1))
    refine fx_iloadn dX6_count_30 rfl ?_
    refine fx_if_lt 39 dX6_count_31 (by decide) (fun c31 => ?_) (fun c31 => absurd (hx) c31)
    refine fx_iconst (-1) dX6_count_39 (by decide) ?_
    refine fx_iret dX6_count_40 rfl ?_
    exact ⟨by unfold ml_ct; rw [if_neg hx0, if_neg hx1, if_pos (Or.inl hx)], ⟨fb, ff, fz, ft, fp, fh, fk, fc, bs, E1, hv, hI, hN, hro, hI9, hfk⟩, k1⟩
  · have hx0 : ¬ x = nI 0 := fun z => by rw [z] at hx; exact absurd hx (by decide)
    have hx1 : ¬ x = nI 1 := fun z => by rw [z] at hx; exact absurd hx (by decide)
    have hxn : ¬ x < 0 := fun z => absurd (Int32.le_trans hx (Int32.le_of_lt z)) (by decide)
    have hx5 : ¬ x ≤ nI 5 := fun z => absurd (Int32.le_trans hx z) (by decide)
    refine fx_aloadn dX6_count_0 rfl ?_
    refine fx_iconst (nI 0) dX6_count_1 (by decide) ?_
    refine fx_putV dX6_count_2 ffX6_37 e0 rfl rfl (Nat.le_of_ble_eq_true rfl) (fun h1 q1 o1 => ?_)
    have E1 : rx h1 m pb pf pz pt pp ph pk pc fb ff fz ft fp fh fk fc 0 len N E bs I.length T := E0.obj q1 o1
    have k1 := kp.put (kp.rf (S := rC m pb pf pz pt pp ph pk pc)) o1 (Or.inl (Or.inl rfl))
    obtain ⟨e0, ⟨e1, e2, e3, e4, e5, e6, e7, e8⟩, -⟩ := id E1
    refine fx_iloadn dX6_count_5 rfl ?_
    refine fx_if_eq 14 dX6_count_6 (by decide) (fun c6 => absurd c6 (hx0)) (fun c6 => ?_)
    refine fx_iloadn dX6_count_9 rfl ?_
    refine fx_iconst (nI 1) dX6_count_10 (by decide) ?_
    refine fx_icmp_ne 30 dX6_count_11 (by decide) (fun c11 => ?_) (fun c11 => absurd c11 (hx1))
    refine fx_iloadn dX6_count_30 rfl ?_
    refine fx_if_lt 39 dX6_count_31 (by decide) (fun c31 => absurd c31 (hxn)) (fun c31 => ?_)
    refine fx_iloadn dX6_count_34 rfl ?_
    refine fx_iconst (nI 5) dX6_count_35 (by decide) ?_
    refine fx_icmp_le 41 dX6_count_36 (by decide) (fun c36 => absurd c36 (hx5)) (fun c36 => ?_)
    refine fx_iconst (-1) dX6_count_39 (by decide) ?_
    refine fx_iret dX6_count_40 rfl ?_
    exact ⟨by unfold ml_ct; rw [if_neg hx0, if_neg hx1, if_pos (Or.inr hx)], ⟨fb, ff, fz, ft, fp, fh, fk, fc, bs, E1, hv, hI, hN, hro, hI9, hfk⟩, k1⟩
  by_cases hq0 : q = 0
  · subst hq0
    refine fx_aloadn dX6_count_0 rfl ?_
    refine fx_iconst (nI 0) dX6_count_1 (by decide) ?_
    refine fx_putV dX6_count_2 ffX6_37 e0 rfl rfl (Nat.le_of_ble_eq_true rfl) (fun h1 q1 o1 => ?_)
    have E1 : rx h1 m pb pf pz pt pp ph pk pc fb ff fz ft fp fh fk fc 0 len N E bs I.length T := E0.obj q1 o1
    have k1 := kp.put (kp.rf (S := rC m pb pf pz pt pp ph pk pc)) o1 (Or.inl (Or.inl rfl))
    obtain ⟨e0, ⟨e1, e2, e3, e4, e5, e6, e7, e8⟩, -⟩ := id E1
    refine fx_iloadn dX6_count_5 rfl ?_
    refine fx_if_eq 14 dX6_count_6 (by decide) (fun c6 => ?_) (fun c6 => absurd (rfl) c6)
    refine fx_iloadn dX6_count_14 rfl ?_
    refine fx_if_ne 25 dX6_count_15 (by decide) (fun c15 => absurd (rfl) c15) (fun c15 => ?_)
    refine fx_aloadn dX6_count_18 rfl ?_
    refine fx_get dX6_count_19 ffX6_45 (by assumption) rfl ?_
    refine fx_goto 29 dX6_count_22 (by decide) ?_
    refine fx_iret dX6_count_29 rfl ?_
    exact ⟨by unfold ml_ct; rw [if_pos rfl], ⟨fb, ff, fz, ft, fp, fh, fk, fc, bs, E1, hv, hI, hN, hro, hI9, hfk⟩, k1⟩
  by_cases hq1 : q = 1
  · subst hq1
    refine fx_aloadn dX6_count_0 rfl ?_
    refine fx_iconst (nI 0) dX6_count_1 (by decide) ?_
    refine fx_putV dX6_count_2 ffX6_37 e0 rfl rfl (Nat.le_of_ble_eq_true rfl) (fun h1 q1 o1 => ?_)
    have E1 : rx h1 m pb pf pz pt pp ph pk pc fb ff fz ft fp fh fk fc 0 len N E bs I.length T := E0.obj q1 o1
    have k1 := kp.put (kp.rf (S := rC m pb pf pz pt pp ph pk pc)) o1 (Or.inl (Or.inl rfl))
    obtain ⟨e0, ⟨e1, e2, e3, e4, e5, e6, e7, e8⟩, -⟩ := id E1
    refine fx_iloadn dX6_count_5 rfl ?_
    refine fx_if_eq 14 dX6_count_6 (by decide) (fun c6 => absurd c6 (by decide)) (fun c6 => ?_)
    refine fx_iloadn dX6_count_9 rfl ?_
    refine fx_iconst (nI 1) dX6_count_10 (by decide) ?_
    refine fx_icmp_ne 30 dX6_count_11 (by decide) (fun c11 => absurd (rfl) c11) (fun c11 => ?_)
    refine fx_iloadn dX6_count_14 rfl ?_
    refine fx_if_ne 25 dX6_count_15 (by decide) (fun c15 => ?_) (fun c15 => absurd c15 (by decide))
    refine fx_aloadn dX6_count_25 rfl ?_
    refine fx_get dX6_count_26 ffX6_41 (by assumption) rfl ?_
    refine fx_iret dX6_count_29 rfl ?_
    exact ⟨by unfold ml_ct; rw [if_neg (by decide), if_pos rfl], ⟨fb, ff, fz, ft, fp, fh, fk, fc, bs, E1, hv, hI, hN, hro, hI9, hfk⟩, k1⟩
  · have hq2 : 2 ≤ q := by omega
    by_cases hN0 : N = 0
    · skip
      refine fx_aloadn dX6_count_0 rfl ?_
      refine fx_iconst (nI 0) dX6_count_1 (by decide) ?_
      refine fx_putV dX6_count_2 ffX6_37 e0 rfl rfl (Nat.le_of_ble_eq_true rfl) (fun h1 q1 o1 => ?_)
      have E1 : rx h1 m pb pf pz pt pp ph pk pc fb ff fz ft fp fh fk fc 0 len N E bs I.length T := E0.obj q1 o1
      have k1 := kp.put (kp.rf (S := rC m pb pf pz pt pp ph pk pc)) o1 (Or.inl (Or.inl rfl))
      obtain ⟨e0, ⟨e1, e2, e3, e4, e5, e6, e7, e8⟩, -⟩ := id E1
      refine fx_iloadn dX6_count_5 rfl ?_
      refine fx_if_eq 14 dX6_count_6 (by decide) (fun c6 => absurd c6 (fun z => absurd ((nI_eq (by omega) (by decide)).mp (show nI q = nI 0 from z)) (by omega))) (fun c6 => ?_)
      refine fx_iloadn dX6_count_9 rfl ?_
      refine fx_iconst (nI 1) dX6_count_10 (by decide) ?_
      refine fx_icmp_ne 30 dX6_count_11 (by decide) (fun c11 => ?_) (fun c11 => absurd c11 (fun z => absurd ((nI_eq (by omega) (by decide)).mp z) (by omega)))
      refine fx_iloadn dX6_count_30 rfl ?_
      refine fx_if_lt 39 dX6_count_31 (by decide) (fun c31 => absurd c31 (nI_pos (by omega))) (fun c31 => ?_)
      refine fx_iloadn dX6_count_34 rfl ?_
      refine fx_iconst (nI 5) dX6_count_35 (by decide) ?_
      refine fx_icmp_le 41 dX6_count_36 (by decide) (fun c36 => ?_) (fun c36 => absurd (nI_le (show q ≤ 5 by omega) (by decide)) c36)
      refine fx_aloadn dX6_count_41 rfl ?_
      refine fx_get dX6_count_42 ffX6_45 (by assumption) rfl ?_
      refine fx_if_ne 50 dX6_count_45 (by decide) (fun c45 => absurd (by rw [hN0]; rfl) c45) (fun c45 => ?_)
      refine fx_iconst (nI 0) dX6_count_48 (by decide) ?_
      refine fx_iret dX6_count_49 rfl ?_
      exact ⟨by unfold ml_ct; rw [if_neg (fun z => absurd ((nI_eq (by omega) (by decide)).mp z) (by omega)), if_neg (fun z => absurd ((nI_eq (by omega) (by decide)).mp z) (by omega)), if_neg (fun z => by rcases z with z | z; exact nI_pos (by omega) z; exact absurd ((nI_leI (by decide) (by omega)).mp z) (by omega)), if_pos hN0], ⟨fb, ff, fz, ft, fp, fh, fk, fc, bs, E1, hv, hI, hN, hro, hI9, hfk⟩, k1⟩
    · have hN1 : N - 1 < N := by omega
      have V := (hfk _ hN1).1
      have hs9 := V.six
      have hH2 := V.w.2.2
      refine fx_aloadn dX6_count_0 rfl ?_
      refine fx_iconst (nI 0) dX6_count_1 (by decide) ?_
      refine fx_putV dX6_count_2 ffX6_37 e0 rfl rfl (Nat.le_of_ble_eq_true rfl) (fun h1 q1 o1 => ?_)
      have E1 : rx h1 m pb pf pz pt pp ph pk pc fb ff fz ft fp fh fk fc 0 len N E bs I.length T := E0.obj q1 o1
      have k1 := kp.put (kp.rf (S := rC m pb pf pz pt pp ph pk pc)) o1 (Or.inl (Or.inl rfl))
      obtain ⟨e0, ⟨e1, e2, e3, e4, e5, e6, e7, e8⟩, -⟩ := id E1
      refine fx_iloadn dX6_count_5 rfl ?_
      refine fx_if_eq 14 dX6_count_6 (by decide) (fun c6 => absurd c6 (fun z => absurd ((nI_eq (by omega) (by decide)).mp (show nI q = nI 0 from z)) (by omega))) (fun c6 => ?_)
      refine fx_iloadn dX6_count_9 rfl ?_
      refine fx_iconst (nI 1) dX6_count_10 (by decide) ?_
      refine fx_icmp_ne 30 dX6_count_11 (by decide) (fun c11 => ?_) (fun c11 => absurd c11 (fun z => absurd ((nI_eq (by omega) (by decide)).mp z) (by omega)))
      refine fx_iloadn dX6_count_30 rfl ?_
      refine fx_if_lt 39 dX6_count_31 (by decide) (fun c31 => absurd c31 (nI_pos (by omega))) (fun c31 => ?_)
      refine fx_iloadn dX6_count_34 rfl ?_
      refine fx_iconst (nI 5) dX6_count_35 (by decide) ?_
      refine fx_icmp_le 41 dX6_count_36 (by decide) (fun c36 => ?_) (fun c36 => absurd (nI_le (show q ≤ 5 by omega) (by decide)) c36)
      refine fx_aloadn dX6_count_41 rfl ?_
      refine fx_get dX6_count_42 ffX6_45 (by assumption) rfl ?_
      refine fx_if_ne 50 dX6_count_45 (by decide) (fun c45 => ?_) (fun c45 => absurd c45 (nI_ne0 (by omega) (by omega)))
      refine fx_aloadn dX6_count_50 rfl ?_
      refine fx_aloadn dX6_count_51 rfl ?_
      refine fx_get dX6_count_52 ffX6_45 (by assumption) rfl ?_
      refine fx_iconst (nI 1) dX6_count_55 (by decide) ?_
      refine fx_isub dX6_count_56 ?_
      rw [pk_sub (by omega)]
      refine fx_callV dX6_count_57 vX6_choose kkX6_139 rfl rfl e0 (c_rs_chooseY (⟨fb, ff, fz, ft, fp, fh, fk, fc, bs, E1, hv, hI, hN, hro, hI9, hfk⟩ : rs h1 m pb pf pz pt pp ph pk pc F N B len E I T 0) (N - 1) hN1) rfl (by decide) (by decide) (Nat.zero_le _) (Nat.zero_le _) rfl (Nat.le_of_ble_eq_true rfl) (fun r2 h2 hk2 => ?_)
      obtain ⟨rfl, H2, k2⟩ := hk2
      obtain ⟨gs2, e0⟩ := H2.at
      have D := H2.D hN1
      refine fx_istoren dX6_count_60 (by decide) ?_
      refine fx_iconst (nI 0) dX6_count_61 (by decide) ?_
      refine fx_istoren dX6_count_62 (by decide) ?_
      refine fx_aloadn dX6_count_63 rfl ?_
      refine fx_iconst (nI 2) dX6_count_64 (by decide) ?_
      refine fx_callVp dX6_count_65 vX6_half kkX6_57 rfl rfl (by assumption) (p_rf_half D 2 (by omega)) rfl (by decide) (by decide) rfl (Nat.le_of_ble_eq_true rfl) ?_
      refine fx_istore dX6_count_68 (by decide) ?_
      refine fx_to (l_rs_count D V (Nat.le_refl _) (nI q) _ (fun lv hlv => fx_to (l_rs_cnt2 H2 hN1 q hq2 hq (fun v hv9 => ⟨?_, H2.rs, k1.tr k2 (fun _ z _ => z)⟩)) hlv) (ml_H (F (N - 1)).1 3 + 1 - ml_H (F (N - 1)).1 2) (ml_H (F (N - 1)).1 2) (Nat.le_refl _) (by omega)) ⟨rfl, rfl, by rw [cc_lo _ (Nat.le_refl _)]; rfl, rfl, trivial⟩
      unfold ml_ct
      rw [if_neg (fun z => absurd ((nI_eq (by omega) (by decide)).mp z) (by omega)), if_neg (fun z => absurd ((nI_eq (by omega) (by decide)).mp z) (by omega)), if_neg (fun z => by rcases z with z | z; exact nI_pos (by omega) z; exact absurd ((nI_leI (by decide) (by omega)).mp z) (by omega)), if_neg hN0, nI_clamp (by omega), hv9]
/-- no such size, or no room -/
def noL (N : Nat) (x : Int32) : Prop := (x < 0 ∨ nI 134217727 < x) ∨ N = 32
theorem ro_ext {F F' : Nat → (Nat → Nat) × Nat × Int32} : ∀ k, (∀ j, j < k → F' j = F j) → ro F' k = ro F k := by
  intro k
  induction k with
  | zero => intro _; rfl
  | succ k ih =>
    intro h
    show ro F' k + 4 * (F' k).2.1 = ro F k + 4 * (F k).2.1
    rw [ih (fun j hj => h j (by omega)), h k (by omega)]
/-- one font more -/
def fnew (F : Nat → (Nat → Nat) × Nat × Int32) (N : Nat) (f : (Nat → Nat) × Nat × Int32) : Nat → (Nat → Nat) × Nat × Int32 := fun k => if k = N then f else F k
theorem fnew_s {F : Nat → (Nat → Nat) × Nat × Int32} {N : Nat} {f : (Nat → Nat) × Nat × Int32} : fnew F N f N = f := if_pos rfl
theorem fnew_n {F : Nat → (Nat → Nat) × Nat × Int32} {N k : Nat} {f : (Nat → Nat) × Nat × Int32} (h : k ≠ N) : fnew F N f k = F k := if_neg h
theorem ftC_le (b : Nat → Nat) : ml_ftC b ≤ 6 := by
  unfold ml_ftC
  split
  · omega
  · split
    · split
      · split
        · split <;> omega
        · omega
      · omega
    · omega
theorem fa_le (b : Nat → Nat) (nb : Nat) : ml_fa b nb ≤ 7 := by
  have h := ftC_le b
  unfold ml_fa
  split
  · split
    · split <;> omega
    · omega
  · omega
theorem fa_0 {b : Nat → Nat} {nb : Nat} (hb : ∀ i, b i < 256) (h : ml_fa b nb = 0) : nb = 4 * ml_H b 0 ∧ fok b (ml_H b 0) := by
  have h1 : ml_f1 b nb := Classical.byContradiction fun q => by
    unfold ml_fa at h
    rw [if_neg q] at h
    exact absurd h (by decide)
  have h2 : nb = 4 * ml_H b 0 := h1.2.1
  have h3 : ml_ftC b = 0 := Classical.byContradiction fun q => by
    unfold ml_fa at h
    rw [if_pos h1, if_neg q] at h
    exact q h
  refine ⟨h2, ⟨hb, by rw [← h2]; exact h1⟩, Classical.byContradiction fun q => ?_, Classical.byContradiction fun q => ?_⟩
  · unfold ml_ftC at h3
    split at h3
    · omega
    · first | omega | (rw [if_neg q] at h3; omega)
  · unfold ml_ftC at h3
    split at h3
    · omega
    · split at h3
      · split at h3
        · first | omega | (rw [if_neg q] at h3; omega)
        · omega
      · omega
theorem c_rs_loadN {g : fx_G} {h : fx_H} {m pb pf pz pt pp ph pk pc N len E : Nat} {F : Nat → (Nat → Nat) × Nat × Int32} {B : Nat → Nat} {I : List sg} {T : Int64} {th : Int32} (H : rs h m pb pf pz pt pp ph pk pc F N B len E I T th) (x : Int32) (hx : noL N x) : fx_Met g mX6_load 11 246 [.ref m, .int x] h 0 0 (fun r h' => r = some (.int (nI 0)) ∧ rs h' m pb pf pz pt pp ph pk pc F N B len E I T (nI 2) ∧ kp (rC m pb pf pz pt pp ph pk pc) h h') := by
  obtain ⟨fb, ff, fz, ft, fp, fh, fk, fc, bs, E0, hv, hI, hN, hro, hI9, hfk⟩ := id H
  obtain ⟨e0, ⟨e1, e2, e3, e4, e5, e6, e7, e8⟩, -⟩ := id E0
  refine fx_Met.of rfl (Nat.le_of_ble_eq_true rfl) ?_
  rcases hx with (hx | hx) | hx
  · skip
    refine fx_iloadn dX6_load_0 rfl ?_
    refine fx_if_lt 19 dX6_load_1 (by decide) (fun c1 => ?_) (fun c1 => absurd (hx) c1)
    refine fx_aloadn dX6_load_19 rfl ?_
    refine fx_iconst (nI 2) dX6_load_20 (by decide) ?_
    refine fx_callV dX6_load_21 vX6_fails kkX6_127 rfl rfl e0 (c_rs_fails H (nI 2)) rfl (by decide) (by decide) (Nat.zero_le _) (Nat.zero_le _) rfl (Nat.le_of_ble_eq_true rfl) (fun r1 h1 hk1 => ?_)
    obtain ⟨rfl, H1, k1⟩ := hk1
    refine fx_iret dX6_load_24 rfl ?_
    exact ⟨rfl, H1, k1⟩
  · have hx0 : ¬ x < 0 := fun z => absurd (Int32.lt_trans hx z) (by decide)
    refine fx_iloadn dX6_load_0 rfl ?_
    refine fx_if_lt 19 dX6_load_1 (by decide) (fun c1 => absurd c1 (hx0)) (fun c1 => ?_)
    refine fx_iloadn dX6_load_4 rfl ?_
    refine fx_ldc dX6_load_5 qqX6_126 ?_
    refine fx_icmp_gt 19 dX6_load_7 (by decide) (fun c7 => ?_) (fun c7 => absurd (hx) c7)
    refine fx_aloadn dX6_load_19 rfl ?_
    refine fx_iconst (nI 2) dX6_load_20 (by decide) ?_
    refine fx_callV dX6_load_21 vX6_fails kkX6_127 rfl rfl e0 (c_rs_fails H (nI 2)) rfl (by decide) (by decide) (Nat.zero_le _) (Nat.zero_le _) rfl (Nat.le_of_ble_eq_true rfl) (fun r1 h1 hk1 => ?_)
    obtain ⟨rfl, H1, k1⟩ := hk1
    refine fx_iret dX6_load_24 rfl ?_
    exact ⟨rfl, H1, k1⟩
  · by_cases hx0 : x < 0
    · have hx := hx0
      refine fx_iloadn dX6_load_0 rfl ?_
      refine fx_if_lt 19 dX6_load_1 (by decide) (fun c1 => ?_) (fun c1 => absurd (hx) c1)
      refine fx_aloadn dX6_load_19 rfl ?_
      refine fx_iconst (nI 2) dX6_load_20 (by decide) ?_
      refine fx_callV dX6_load_21 vX6_fails kkX6_127 rfl rfl e0 (c_rs_fails H (nI 2)) rfl (by decide) (by decide) (Nat.zero_le _) (Nat.zero_le _) rfl (Nat.le_of_ble_eq_true rfl) (fun r1 h1 hk1 => ?_)
      obtain ⟨rfl, H1, k1⟩ := hk1
      refine fx_iret dX6_load_24 rfl ?_
      exact ⟨rfl, H1, k1⟩
    · by_cases hx1 : nI 134217727 < x
      · have hx := hx1
        refine fx_iloadn dX6_load_0 rfl ?_
        refine fx_if_lt 19 dX6_load_1 (by decide) (fun c1 => absurd c1 (hx0)) (fun c1 => ?_)
        refine fx_iloadn dX6_load_4 rfl ?_
        refine fx_ldc dX6_load_5 qqX6_126 ?_
        refine fx_icmp_gt 19 dX6_load_7 (by decide) (fun c7 => ?_) (fun c7 => absurd (hx) c7)
        refine fx_aloadn dX6_load_19 rfl ?_
        refine fx_iconst (nI 2) dX6_load_20 (by decide) ?_
        refine fx_callV dX6_load_21 vX6_fails kkX6_127 rfl rfl e0 (c_rs_fails H (nI 2)) rfl (by decide) (by decide) (Nat.zero_le _) (Nat.zero_le _) rfl (Nat.le_of_ble_eq_true rfl) (fun r1 h1 hk1 => ?_)
        obtain ⟨rfl, H1, k1⟩ := hk1
        refine fx_iret dX6_load_24 rfl ?_
        exact ⟨rfl, H1, k1⟩
      · skip
        refine fx_iloadn dX6_load_0 rfl ?_
        refine fx_if_lt 19 dX6_load_1 (by decide) (fun c1 => absurd c1 (hx0)) (fun c1 => ?_)
        refine fx_iloadn dX6_load_4 rfl ?_
        refine fx_ldc dX6_load_5 qqX6_126 ?_
        refine fx_icmp_gt 19 dX6_load_7 (by decide) (fun c7 => absurd c7 (hx1)) (fun c7 => ?_)
        refine fx_aloadn dX6_load_10 rfl ?_
        refine fx_get dX6_load_11 ffX6_45 (by assumption) rfl ?_
        refine fx_bipush (nI 32) dX6_load_14 (by decide) ?_
        refine fx_icmp_ne 25 dX6_load_16 (by decide) (fun c16 => absurd (by rw [hx]) c16) (fun c16 => ?_)
        refine fx_aloadn dX6_load_19 rfl ?_
        refine fx_iconst (nI 2) dX6_load_20 (by decide) ?_
        refine fx_callV dX6_load_21 vX6_fails kkX6_127 rfl rfl e0 (c_rs_fails H (nI 2)) rfl (by decide) (by decide) (Nat.zero_le _) (Nat.zero_le _) rfl (Nat.le_of_ble_eq_true rfl) (fun r1 h1 hk1 => ?_)
        obtain ⟨rfl, H1, k1⟩ := hk1
        refine fx_iret dX6_load_24 rfl ?_
        exact ⟨rfl, H1, k1⟩
theorem rgk {h h' : fx_H} {m pb pf pz pt pp ph pk pc len nfo fl it : Nat} {fb ff fz ft fp fh fk fc : Nat → Int32} {th : Int32} {wi : Int64} {F : Nat → (Nat → Nat) × Nat × Int32} {N : Nat} {B : Nat → Nat} (E : rx h m pb pf pz pt pp ph pk pc fb ff fz ft fp fh fk fc th len nfo fl (nI (ro F N)) it wi) (k : kp (rS pt pp ph) h h') (hro : ro F N + len ≤ 4096) (hf : ∀ i, i < len → fb (ro F N + i) = nI (B i)) : rg h' m (by_ B len) len := by
  obtain ⟨e0, ⟨e1, e2, e3, e4, e5, e6, e7, e8⟩, c, c1, c2, c3, c4, c5, c6, c7, c8⟩ := E
  have hm := k m (by rw [e0]; exact fun z => by cases z) (fun z => by rcases z with z | z | z; exact ne_oa e0 e4 z; exact ne_oa e0 e5 z; exact ne_oa e0 e6 z)
  have hp := k pb (by rw [e1]; exact fun z => by cases z) (fun z => by rcases z with z | z | z; exact absurd ((c1.symm.trans (congrArg c z)).trans c4) (by decide); exact absurd ((c1.symm.trans (congrArg c z)).trans c5) (by decide); exact absurd ((c1.symm.trans (congrArg c z)).trans c6) (by decide))
  refine ⟨_, pb, ro F N, fb, hm.trans e0, rfl, rfl, hp.trans e1, by omega, fun i hi => ?_, rfl⟩
  · rw [hf i hi]
    show _ = nI (if i < len then B i else 0)
    rw [if_pos hi]
theorem c_rs_loadR {g : fx_G} {h : fx_H} {m pb pf pz pt pp ph pk pc N len E : Nat} {F : Nat → (Nat → Nat) × Nat × Int32} {B : Nat → Nat} {I : List sg} {T : Int64} {th : Int32} (H : rs h m pb pf pz pt pp ph pk pc F N B len E I T th) (hb : ∀ i, by_ B len i < 256) (x : Int32) (hx : ¬ noL N x) (hf : ml_fa (by_ B len) len ≠ 0) : fx_Met g mX6_load 11 246 [.ref m, .int x] h 0 0 (fun r h' => r = some (.int (nI 0)) ∧ rs h' m pb pf pz pt pp ph pk pc F N B 0 (ml_fa (by_ B len) len) I T (nI 1) ∧ kp (rC m pb pf pz pt pp ph pk pc) h h') := by
  obtain ⟨fb, ff, fz, ft, fp, fh, fk, fc, bs, E0, hv, hI, hN, hro, hI9, hfk⟩ := H
  obtain ⟨e0, ⟨e1, e2, e3, e4, e5, e6, e7, e8⟩, -⟩ := id E0
  have hx0 : ¬ x < 0 := fun z => hx (Or.inl (Or.inl z))
  have hx1 : ¬ nI 134217727 < x := fun z => hx (Or.inl (Or.inr z))
  have hN32 : N ≠ 32 := fun z => hx (Or.inr z)
  have hf7 := fa_le (by_ B len) len
  refine fx_Met.of rfl (Nat.le_of_ble_eq_true rfl) ?_
  refine fx_iloadn dX6_load_0 rfl ?_
  refine fx_if_lt 19 dX6_load_1 (by decide) (fun c1 => absurd c1 (hx0)) (fun c1 => ?_)
  refine fx_iloadn dX6_load_4 rfl ?_
  refine fx_ldc dX6_load_5 qqX6_126 ?_
  refine fx_icmp_gt 19 dX6_load_7 (by decide) (fun c7 => absurd c7 (hx1)) (fun c7 => ?_)
  refine fx_aloadn dX6_load_10 rfl ?_
  refine fx_get dX6_load_11 ffX6_45 (by assumption) rfl ?_
  refine fx_bipush (nI 32) dX6_load_14 (by decide) ?_
  refine fx_icmp_ne 25 dX6_load_16 (by decide) (fun c16 => ?_) (fun c16 => absurd c16 (fun z => hN32 ((nI_eq (by omega) (by decide)).mp z)))
  refine fx_aloadn dX6_load_25 rfl ?_
  refine fx_aloadn dX6_load_26 rfl ?_
  refine fx_get dX6_load_27 ffX6_14 (by assumption) rfl ?_
  refine fx_aloadn dX6_load_30 rfl ?_
  refine fx_get dX6_load_31 ffX6_45 (by assumption) rfl ?_
  refine fx_iald dX6_load_34 e2 (vp_in_nI (show N < 33 by omega) (by decide)) ?_
  rw [nI_clamp (by omega), hv.1 N (Nat.le_refl _)]
  refine fx_putV dX6_load_35 ffX6_50 e0 rfl rfl (Nat.le_of_ble_eq_true rfl) (fun h1 q1 o1 => ?_)
  have E1 : rx h1 m pb pf pz pt pp ph pk pc fb ff fz ft fp fh fk fc th len N E (nI (ro F N)) I.length T := E0.obj q1 o1
  have k1 := kp.put (kp.rf (S := rC m pb pf pz pt pp ph pk pc)) o1 (Or.inl (Or.inl rfl))
  obtain ⟨e0, ⟨e1, e2, e3, e4, e5, e6, e7, e8⟩, -⟩ := id E1
  refine fx_aloadn dX6_load_38 rfl ?_
  refine fx_aloadn dX6_load_39 rfl ?_
  refine fx_callV dX6_load_40 vX6_faultOf kkX6_130 rfl rfl e0 (c_rf_faultOf (b := by_ B len) (nb := len) hb E1.ne (fun h' q => rgk E1 q hro hv.2.2) E1.rA) rfl (by decide) (by decide) (Nat.zero_le _) (Nat.zero_le _) rfl (Nat.le_of_ble_eq_true rfl) (fun r2 h2 hk2 => ?_)
  obtain ⟨rfl, ft2, fp2, fh2, A2, k2⟩ := hk2
  have E2 := E1.tab k2 A2
  have k2' := k2.rSS (m := m) (pb := pb) (pf := pf) (pz := pz) (pk := pk) (pc := pc)
  obtain ⟨e0, ⟨e1, e2, e3, e4, e5, e6, e7, e8⟩, -⟩ := id E2
  show fx_Y _ _ _ _ _ _ _ _ [.int (nI (ml_fa (by_ B len) len)), .ref m] _ _ _
  refine fx_putV dX6_load_43 ffX6_133 e0 rfl rfl (Nat.le_of_ble_eq_true rfl) (fun h3 q3 o3 => ?_)
  have E3 : rx h3 m pb pf pz pt pp ph pk pc fb ff fz ft2 fp2 fh2 fk fc th len N (ml_fa (by_ B len) len) (nI (ro F N)) I.length T := E2.obj q3 o3
  have k3 := kp.put (k1.tr k2' (fun _ z _ => z)) o3 (Or.inl (Or.inl rfl))
  obtain ⟨e0, ⟨e1, e2, e3, e4, e5, e6, e7, e8⟩, -⟩ := id E3
  refine fx_aloadn dX6_load_46 rfl ?_
  refine fx_get dX6_load_47 ffX6_41 (by assumption) rfl ?_
  refine fx_istoren dX6_load_50 (by decide) ?_
  refine fx_aloadn dX6_load_51 rfl ?_
  refine fx_iconst (nI 0) dX6_load_52 (by decide) ?_
  refine fx_putV dX6_load_53 ffX6_41 e0 rfl rfl (Nat.le_of_ble_eq_true rfl) (fun h4 q4 o4 => ?_)
  have E4 : rx h4 m pb pf pz pt pp ph pk pc fb ff fz ft2 fp2 fh2 fk fc th 0 N (ml_fa (by_ B len) len) (nI (ro F N)) I.length T := E3.obj q4 o4
  have k4 := kp.put k3 o4 (Or.inl (Or.inl rfl))
  obtain ⟨e0, ⟨e1, e2, e3, e4, e5, e6, e7, e8⟩, -⟩ := id E4
  refine fx_aloadn dX6_load_56 rfl ?_
  refine fx_get dX6_load_57 ffX6_133 (by assumption) rfl ?_
  refine fx_if_le 69 dX6_load_60 (by decide) (fun c60 => absurd c60 (nI_nle (by omega) (by omega))) (fun c60 => ?_)
  refine fx_aloadn dX6_load_63 rfl ?_
  refine fx_iconst (nI 1) dX6_load_64 (by decide) ?_
  refine fx_callV dX6_load_65 vX6_fails kkX6_127 rfl rfl e0 (c_rs_fails (⟨fb, ff, fz, ft2, fp2, fh2, fk, fc, _, E4, ⟨hv.1, hv.2.1, fun i hi => absurd hi (Nat.not_lt_zero _)⟩, hI, hN, by omega, hI9, hfk⟩ : rs h4 m pb pf pz pt pp ph pk pc F N B 0 (ml_fa (by_ B len) len) I T th) (nI 1)) rfl (by decide) (by decide) (Nat.zero_le _) (Nat.zero_le _) rfl (Nat.le_of_ble_eq_true rfl) (fun r5 h5 hk5 => ?_)
  obtain ⟨rfl, H5, k5⟩ := hk5
  refine fx_iret dX6_load_68 rfl ?_
  exact ⟨rfl, H5, k4.tr k5 (fun _ z _ => z)⟩
theorem rgk9 {h : fx_H} {m pb pf pz pt pp ph pk pc len nfo fl it : Nat} {fb ff fz ft fp fh fk fc : Nat → Int32} {th : Int32} {wi : Int64} {F : Nat → (Nat → Nat) × Nat × Int32} {N len9 : Nat} {B : Nat → Nat} (E : rx h m pb pf pz pt pp ph pk pc fb ff fz ft fp fh fk fc th len nfo fl (nI (ro F N)) it wi) (hro : ro F N + len9 ≤ 4096) (hf : ∀ i, i < len9 → fb (ro F N + i) = nI (B i)) : rd h m (by_ B len9) len9 := by
  refine E.rD rfl (by omega) (fun i hi => ?_)
  rw [hf i hi]
  show _ = nI (if i < len9 then B i else 0)
  rw [if_pos hi]
theorem c_rs_loadY {g : fx_G} {h : fx_H} {m pb pf pz pt pp ph pk pc N len E : Nat} {F : Nat → (Nat → Nat) × Nat × Int32} {B : Nat → Nat} {I : List sg} {T : Int64} {th : Int32} (H : rs h m pb pf pz pt pp ph pk pc F N B len E I T th) (hb : ∀ i, by_ B len i < 256) (x : Int32) (hx : ¬ noL N x) (hf : ml_fa (by_ B len) len = 0) : fx_Met g mX6_load 11 246 [.ref m, .int x] h 0 0 (fun r h' => r = some (.int (nI N)) ∧ rs h' m pb pf pz pt pp ph pk pc (fnew F N (by_ B len, ml_H (by_ B len) 0, ml_z (by_ B len) x)) (N + 1) B 0 0 I T 0 ∧ kp (rC m pb pf pz pt pp ph pk pc) h h') := by
  obtain ⟨fb, ff, fz, ft, fp, fh, fk, fc, bs, E0, hv, hI, hN, hro, hI9, hfk⟩ := H
  obtain ⟨e0, ⟨e1, e2, e3, e4, e5, e6, e7, e8⟩, -⟩ := id E0
  have hx0 : ¬ x < 0 := fun z => hx (Or.inl (Or.inl z))
  have hx1 : ¬ nI 134217727 < x := fun z => hx (Or.inl (Or.inr z))
  have hN32 : N ≠ 32 := fun z => hx (Or.inr z)
  have hnb := fa_0 hb hf
  have V := hnb.2.1
  have hq1 : 2 ≤ ml_H (by_ B len) 1 := V.2.2.2.2.1
  have hq0 : 6 + ml_H (by_ B len) 1 ≤ ml_H (by_ B len) 0 := V.row (r := 0) (by decide)
  have hw7 : ml_W (by_ B len) 7 = ml_e (by_ B len) 0 1 := by
    unfold ml_e
    rw [if_pos (show 1 < ml_rl (by_ B len) 0 by show 1 < ml_H (by_ B len) 1; omega)]
    rfl
  refine fx_Met.of rfl (Nat.le_of_ble_eq_true rfl) ?_
  by_cases hz : x = 0
  · skip
    refine fx_iloadn dX6_load_0 rfl ?_
    refine fx_if_lt 19 dX6_load_1 (by decide) (fun c1 => absurd c1 (hx0)) (fun c1 => ?_)
    refine fx_iloadn dX6_load_4 rfl ?_
    refine fx_ldc dX6_load_5 qqX6_126 ?_
    refine fx_icmp_gt 19 dX6_load_7 (by decide) (fun c7 => absurd c7 (hx1)) (fun c7 => ?_)
    refine fx_aloadn dX6_load_10 rfl ?_
    refine fx_get dX6_load_11 ffX6_45 (by assumption) rfl ?_
    refine fx_bipush (nI 32) dX6_load_14 (by decide) ?_
    refine fx_icmp_ne 25 dX6_load_16 (by decide) (fun c16 => ?_) (fun c16 => absurd c16 (fun z => hN32 ((nI_eq (by omega) (by decide)).mp z)))
    refine fx_aloadn dX6_load_25 rfl ?_
    refine fx_aloadn dX6_load_26 rfl ?_
    refine fx_get dX6_load_27 ffX6_14 (by assumption) rfl ?_
    refine fx_aloadn dX6_load_30 rfl ?_
    refine fx_get dX6_load_31 ffX6_45 (by assumption) rfl ?_
    refine fx_iald dX6_load_34 e2 (vp_in_nI (show N < 33 by omega) (by decide)) ?_
    rw [nI_clamp (by omega), hv.1 N (Nat.le_refl _)]
    refine fx_putV dX6_load_35 ffX6_50 e0 rfl rfl (Nat.le_of_ble_eq_true rfl) (fun h1 q1 o1 => ?_)
    have E1 : rx h1 m pb pf pz pt pp ph pk pc fb ff fz ft fp fh fk fc th len N E (nI (ro F N)) I.length T := E0.obj q1 o1
    have k1 := kp.put (kp.rf (S := rC m pb pf pz pt pp ph pk pc)) o1 (Or.inl (Or.inl rfl))
    obtain ⟨e0, ⟨e1, e2, e3, e4, e5, e6, e7, e8⟩, -⟩ := id E1
    refine fx_aloadn dX6_load_38 rfl ?_
    refine fx_aloadn dX6_load_39 rfl ?_
    refine fx_callV dX6_load_40 vX6_faultOf kkX6_130 rfl rfl e0 (c_rf_faultOf (b := by_ B len) (nb := len) hb E1.ne (fun h' q => rgk E1 q hro hv.2.2) E1.rA) rfl (by decide) (by decide) (Nat.zero_le _) (Nat.zero_le _) rfl (Nat.le_of_ble_eq_true rfl) (fun r2 h2 hk2 => ?_)
    obtain ⟨rfl, ft2, fp2, fh2, A2, k2⟩ := hk2
    have E2 := E1.tab k2 A2
    have k2' := k2.rSS (m := m) (pb := pb) (pf := pf) (pz := pz) (pk := pk) (pc := pc)
    obtain ⟨e0, ⟨e1, e2, e3, e4, e5, e6, e7, e8⟩, -⟩ := id E2
    show fx_Y _ _ _ _ _ _ _ _ [.int (nI (ml_fa (by_ B len) len)), .ref m] _ _ _
    refine fx_putV dX6_load_43 ffX6_133 e0 rfl rfl (Nat.le_of_ble_eq_true rfl) (fun h3 q3 o3 => ?_)
    have E3 : rx h3 m pb pf pz pt pp ph pk pc fb ff fz ft2 fp2 fh2 fk fc th len N (ml_fa (by_ B len) len) (nI (ro F N)) I.length T := E2.obj q3 o3
    have k3 := kp.put (k1.tr k2' (fun _ z _ => z)) o3 (Or.inl (Or.inl rfl))
    obtain ⟨e0, ⟨e1, e2, e3, e4, e5, e6, e7, e8⟩, -⟩ := id E3
    refine fx_aloadn dX6_load_46 rfl ?_
    refine fx_get dX6_load_47 ffX6_41 (by assumption) rfl ?_
    refine fx_istoren dX6_load_50 (by decide) ?_
    refine fx_aloadn dX6_load_51 rfl ?_
    refine fx_iconst (nI 0) dX6_load_52 (by decide) ?_
    refine fx_putV dX6_load_53 ffX6_41 e0 rfl rfl (Nat.le_of_ble_eq_true rfl) (fun h4 q4 o4 => ?_)
    have E4 : rx h4 m pb pf pz pt pp ph pk pc fb ff fz ft2 fp2 fh2 fk fc th 0 N (ml_fa (by_ B len) len) (nI (ro F N)) I.length T := E3.obj q4 o4
    have k4 := kp.put k3 o4 (Or.inl (Or.inl rfl))
    obtain ⟨e0, ⟨e1, e2, e3, e4, e5, e6, e7, e8⟩, -⟩ := id E4
    rw [hf] at E4
    obtain ⟨e0, ⟨e1, e2, e3, e4, e5, e6, e7, e8⟩, -⟩ := id E4
    refine fx_aloadn dX6_load_56 rfl ?_
    refine fx_get dX6_load_57 ffX6_133 (by assumption) rfl ?_
    refine fx_if_le 69 dX6_load_60 (by decide) (fun c60 => ?_) (fun c60 => absurd (by show nI 0 ≤ 0; decide) c60)
    refine fx_aloadn dX6_load_69 rfl ?_
    refine fx_iconst (nI 0) dX6_load_70 (by decide) ?_
    refine fx_putV dX6_load_71 ffX6_37 e0 rfl rfl (Nat.le_of_ble_eq_true rfl) (fun h5 q5 o5 => ?_)
    have E5 : rx h5 m pb pf pz pt pp ph pk pc fb ff fz ft2 fp2 fh2 fk fc 0 0 N 0 (nI (ro F N)) I.length T := E4.obj q5 o5
    have k5 := kp.put k4 o5 (Or.inl (Or.inl rfl))
    obtain ⟨e0, ⟨e1, e2, e3, e4, e5, e6, e7, e8⟩, -⟩ := id E5
    refine fx_aloadn dX6_load_74 rfl ?_
    refine fx_get dX6_load_75 ffX6_17 (by assumption) rfl ?_
    refine fx_aloadn dX6_load_78 rfl ?_
    refine fx_get dX6_load_79 ffX6_45 (by assumption) rfl ?_
    refine fx_iloadn dX6_load_82 rfl ?_
    refine fx_if_ne 97 dX6_load_83 (by decide) (fun c83 => absurd (hz) c83) (fun c83 => ?_)
    have D : rd h5 m (by_ B len) len := (rgk9 E5 hro hv.2.2)
    refine fx_aloadn dX6_load_86 rfl ?_
    refine fx_bipush (nI 7) dX6_load_87 (by decide) ?_
    refine fx_callVp dX6_load_89 vX6_word kkX6_83 rfl rfl (by assumption) (p_rf_word D hb 7 (by omega)) rfl (by decide) (by decide) rfl (Nat.le_of_ble_eq_true rfl) ?_
    refine fx_iconst (nI 4) dX6_load_92 (by decide) ?_
    refine fx_ishr dX6_load_93 ?_
    refine fx_goto 98 dX6_load_94 (by decide) ?_
    refine fx_iastV dX6_load_98 e3 (vp_in_nI (show N < 32 by omega) (by decide)) (fun h6 q6 o6 => ?_)
    rw [nI_clamp (by omega)] at q6
    have E6 := E5.fz q6 o6
    have k6 := kp.put k5 o6 (Or.inl (Or.inr (Or.inr (Or.inr (Or.inl rfl)))))
    obtain ⟨e0, ⟨e1, e2, e3, e4, e5, e6, e7, e8⟩, -⟩ := id E6
    refine fx_aloadn dX6_load_99 rfl ?_
    refine fx_dup dX6_load_100 rfl ?_
    refine fx_get dX6_load_101 ffX6_45 (by assumption) rfl ?_
    refine fx_iconst (nI 1) dX6_load_104 (by decide) ?_
    refine fx_iadd dX6_load_105 ?_
    rw [nI_add]
    refine fx_putV dX6_load_106 ffX6_45 e0 rfl rfl (Nat.le_of_ble_eq_true rfl) (fun h7 q7 o7 => ?_)
    have E7 : rx h7 m pb pf pz pt pp ph pk pc fb ff (upd fz N (nI (ml_W (by_ B len) 7) >>> (nI 4 &&& 31))) ft2 fp2 fh2 fk fc 0 0 (N + 1) 0 (nI (ro F N)) I.length T := E6.obj q7 o7
    have k7 := kp.put k6 o7 (Or.inl (Or.inl rfl))
    obtain ⟨e0, ⟨e1, e2, e3, e4, e5, e6, e7, e8⟩, -⟩ := id E7
    refine fx_aloadn dX6_load_109 rfl ?_
    refine fx_get dX6_load_110 ffX6_14 (by assumption) rfl ?_
    refine fx_aloadn dX6_load_113 rfl ?_
    refine fx_get dX6_load_114 ffX6_45 (by assumption) rfl ?_
    refine fx_aloadn dX6_load_117 rfl ?_
    refine fx_get dX6_load_118 ffX6_50 (by assumption) rfl ?_
    refine fx_iloadn dX6_load_121 rfl ?_
    refine fx_iadd dX6_load_122 ?_
    rw [nI_add]
    refine fx_iastV dX6_load_123 e2 (vp_in_nI (show N + 1 < 33 by omega) (by decide)) (fun h8 q8 o8 => ?_)
    rw [nI_clamp (by omega)] at q8
    have E8 := E7.ff q8 o8
    have k8 := kp.put k7 o8 (Or.inl (Or.inr (Or.inr (Or.inl rfl))))
    obtain ⟨e0, ⟨e1, e2, e3, e4, e5, e6, e7, e8⟩, -⟩ := id E8
    refine fx_aloadn dX6_load_124 rfl ?_
    refine fx_get dX6_load_125 ffX6_45 (by assumption) rfl ?_
    refine fx_iconst (nI 1) dX6_load_128 (by decide) ?_
    refine fx_isub dX6_load_129 ?_
    refine fx_iret dX6_load_130 rfl ?_
    refine ⟨?_, ⟨fb, _, _, ft2, fp2, fh2, fk, fc, _, E8, ⟨fun k hk => ?_, fun k hk => ?_, fun i hi => absurd hi (Nat.not_lt_zero _)⟩, hI, by omega, ?_, hI9, fun k hk => ?_⟩, k8⟩
    · rw [pk_sub (by omega)]
      rfl
    · by_cases q : k = N + 1
      · rw [q, pk_us]
        show nI (ro F N + len) = nI (ro (fnew F N (by_ B len, ml_H (by_ B len) 0, ml_z (by_ B len) x)) N + 4 * (fnew F N (by_ B len, ml_H (by_ B len) 0, ml_z (by_ B len) x) N).2.1)
        rw [ro_ext (F := F) N (fun j hj => fnew_n (by omega)), fnew_s]
        exact congrArg (fun t => nI (ro F N + t)) hnb.1
      · rw [pk_un q, ro_ext k (fun j hj => fnew_n (by omega))]
        exact hv.1 k (by omega)
    · by_cases q : k = N
      · rw [q, fnew_s, pk_us, ro_ext N (fun j hj => fnew_n (by omega))]
        refine ⟨(by show _ = ml_z (by_ B len) x; unfold ml_z; rw [if_pos hz, ← hw7]), fun i hi => ?_⟩
        have hi2 : i < len := by have h9 : i < 4 * ml_H (by_ B len) 0 := hi; omega
        rw [hv.2.2 i hi2]
        show _ = nI (if i < len then B i else 0)
        rw [if_pos hi2]
      · rw [fnew_n q, pk_un q, ro_ext k (fun j hj => fnew_n (by omega))]
        exact hv.2.1 k (by omega)
    · show ro (fnew F N (by_ B len, ml_H (by_ B len) 0, ml_z (by_ B len) x)) N + 4 * (fnew F N (by_ B len, ml_H (by_ B len) 0, ml_z (by_ B len) x) N).2.1 + 0 ≤ 4096
      rw [ro_ext N (fun j hj => fnew_n (by omega)), fnew_s]
      have h9 := hnb.1
      show ro F N + 4 * ml_H (by_ B len) 0 + 0 ≤ 4096
      omega
    · by_cases q : k = N
      · rw [q, fnew_s]
        exact hnb.2
      · rw [fnew_n q]
        exact hfk k (by omega)
  · skip
    refine fx_iloadn dX6_load_0 rfl ?_
    refine fx_if_lt 19 dX6_load_1 (by decide) (fun c1 => absurd c1 (hx0)) (fun c1 => ?_)
    refine fx_iloadn dX6_load_4 rfl ?_
    refine fx_ldc dX6_load_5 qqX6_126 ?_
    refine fx_icmp_gt 19 dX6_load_7 (by decide) (fun c7 => absurd c7 (hx1)) (fun c7 => ?_)
    refine fx_aloadn dX6_load_10 rfl ?_
    refine fx_get dX6_load_11 ffX6_45 (by assumption) rfl ?_
    refine fx_bipush (nI 32) dX6_load_14 (by decide) ?_
    refine fx_icmp_ne 25 dX6_load_16 (by decide) (fun c16 => ?_) (fun c16 => absurd c16 (fun z => hN32 ((nI_eq (by omega) (by decide)).mp z)))
    refine fx_aloadn dX6_load_25 rfl ?_
    refine fx_aloadn dX6_load_26 rfl ?_
    refine fx_get dX6_load_27 ffX6_14 (by assumption) rfl ?_
    refine fx_aloadn dX6_load_30 rfl ?_
    refine fx_get dX6_load_31 ffX6_45 (by assumption) rfl ?_
    refine fx_iald dX6_load_34 e2 (vp_in_nI (show N < 33 by omega) (by decide)) ?_
    rw [nI_clamp (by omega), hv.1 N (Nat.le_refl _)]
    refine fx_putV dX6_load_35 ffX6_50 e0 rfl rfl (Nat.le_of_ble_eq_true rfl) (fun h1 q1 o1 => ?_)
    have E1 : rx h1 m pb pf pz pt pp ph pk pc fb ff fz ft fp fh fk fc th len N E (nI (ro F N)) I.length T := E0.obj q1 o1
    have k1 := kp.put (kp.rf (S := rC m pb pf pz pt pp ph pk pc)) o1 (Or.inl (Or.inl rfl))
    obtain ⟨e0, ⟨e1, e2, e3, e4, e5, e6, e7, e8⟩, -⟩ := id E1
    refine fx_aloadn dX6_load_38 rfl ?_
    refine fx_aloadn dX6_load_39 rfl ?_
    refine fx_callV dX6_load_40 vX6_faultOf kkX6_130 rfl rfl e0 (c_rf_faultOf (b := by_ B len) (nb := len) hb E1.ne (fun h' q => rgk E1 q hro hv.2.2) E1.rA) rfl (by decide) (by decide) (Nat.zero_le _) (Nat.zero_le _) rfl (Nat.le_of_ble_eq_true rfl) (fun r2 h2 hk2 => ?_)
    obtain ⟨rfl, ft2, fp2, fh2, A2, k2⟩ := hk2
    have E2 := E1.tab k2 A2
    have k2' := k2.rSS (m := m) (pb := pb) (pf := pf) (pz := pz) (pk := pk) (pc := pc)
    obtain ⟨e0, ⟨e1, e2, e3, e4, e5, e6, e7, e8⟩, -⟩ := id E2
    show fx_Y _ _ _ _ _ _ _ _ [.int (nI (ml_fa (by_ B len) len)), .ref m] _ _ _
    refine fx_putV dX6_load_43 ffX6_133 e0 rfl rfl (Nat.le_of_ble_eq_true rfl) (fun h3 q3 o3 => ?_)
    have E3 : rx h3 m pb pf pz pt pp ph pk pc fb ff fz ft2 fp2 fh2 fk fc th len N (ml_fa (by_ B len) len) (nI (ro F N)) I.length T := E2.obj q3 o3
    have k3 := kp.put (k1.tr k2' (fun _ z _ => z)) o3 (Or.inl (Or.inl rfl))
    obtain ⟨e0, ⟨e1, e2, e3, e4, e5, e6, e7, e8⟩, -⟩ := id E3
    refine fx_aloadn dX6_load_46 rfl ?_
    refine fx_get dX6_load_47 ffX6_41 (by assumption) rfl ?_
    refine fx_istoren dX6_load_50 (by decide) ?_
    refine fx_aloadn dX6_load_51 rfl ?_
    refine fx_iconst (nI 0) dX6_load_52 (by decide) ?_
    refine fx_putV dX6_load_53 ffX6_41 e0 rfl rfl (Nat.le_of_ble_eq_true rfl) (fun h4 q4 o4 => ?_)
    have E4 : rx h4 m pb pf pz pt pp ph pk pc fb ff fz ft2 fp2 fh2 fk fc th 0 N (ml_fa (by_ B len) len) (nI (ro F N)) I.length T := E3.obj q4 o4
    have k4 := kp.put k3 o4 (Or.inl (Or.inl rfl))
    obtain ⟨e0, ⟨e1, e2, e3, e4, e5, e6, e7, e8⟩, -⟩ := id E4
    rw [hf] at E4
    obtain ⟨e0, ⟨e1, e2, e3, e4, e5, e6, e7, e8⟩, -⟩ := id E4
    refine fx_aloadn dX6_load_56 rfl ?_
    refine fx_get dX6_load_57 ffX6_133 (by assumption) rfl ?_
    refine fx_if_le 69 dX6_load_60 (by decide) (fun c60 => ?_) (fun c60 => absurd (by show nI 0 ≤ 0; decide) c60)
    refine fx_aloadn dX6_load_69 rfl ?_
    refine fx_iconst (nI 0) dX6_load_70 (by decide) ?_
    refine fx_putV dX6_load_71 ffX6_37 e0 rfl rfl (Nat.le_of_ble_eq_true rfl) (fun h5 q5 o5 => ?_)
    have E5 : rx h5 m pb pf pz pt pp ph pk pc fb ff fz ft2 fp2 fh2 fk fc 0 0 N 0 (nI (ro F N)) I.length T := E4.obj q5 o5
    have k5 := kp.put k4 o5 (Or.inl (Or.inl rfl))
    obtain ⟨e0, ⟨e1, e2, e3, e4, e5, e6, e7, e8⟩, -⟩ := id E5
    refine fx_aloadn dX6_load_74 rfl ?_
    refine fx_get dX6_load_75 ffX6_17 (by assumption) rfl ?_
    refine fx_aloadn dX6_load_78 rfl ?_
    refine fx_get dX6_load_79 ffX6_45 (by assumption) rfl ?_
    refine fx_iloadn dX6_load_82 rfl ?_
    refine fx_if_ne 97 dX6_load_83 (by decide) (fun c83 => ?_) (fun c83 => absurd c83 (hz))
    refine fx_iloadn dX6_load_97 rfl ?_
    refine fx_iastV dX6_load_98 e3 (vp_in_nI (show N < 32 by omega) (by decide)) (fun h6 q6 o6 => ?_)
    rw [nI_clamp (by omega)] at q6
    have E6 := E5.fz q6 o6
    have k6 := kp.put k5 o6 (Or.inl (Or.inr (Or.inr (Or.inr (Or.inl rfl)))))
    obtain ⟨e0, ⟨e1, e2, e3, e4, e5, e6, e7, e8⟩, -⟩ := id E6
    refine fx_aloadn dX6_load_99 rfl ?_
    refine fx_dup dX6_load_100 rfl ?_
    refine fx_get dX6_load_101 ffX6_45 (by assumption) rfl ?_
    refine fx_iconst (nI 1) dX6_load_104 (by decide) ?_
    refine fx_iadd dX6_load_105 ?_
    rw [nI_add]
    refine fx_putV dX6_load_106 ffX6_45 e0 rfl rfl (Nat.le_of_ble_eq_true rfl) (fun h7 q7 o7 => ?_)
    have E7 : rx h7 m pb pf pz pt pp ph pk pc fb ff (upd fz N x) ft2 fp2 fh2 fk fc 0 0 (N + 1) 0 (nI (ro F N)) I.length T := E6.obj q7 o7
    have k7 := kp.put k6 o7 (Or.inl (Or.inl rfl))
    obtain ⟨e0, ⟨e1, e2, e3, e4, e5, e6, e7, e8⟩, -⟩ := id E7
    refine fx_aloadn dX6_load_109 rfl ?_
    refine fx_get dX6_load_110 ffX6_14 (by assumption) rfl ?_
    refine fx_aloadn dX6_load_113 rfl ?_
    refine fx_get dX6_load_114 ffX6_45 (by assumption) rfl ?_
    refine fx_aloadn dX6_load_117 rfl ?_
    refine fx_get dX6_load_118 ffX6_50 (by assumption) rfl ?_
    refine fx_iloadn dX6_load_121 rfl ?_
    refine fx_iadd dX6_load_122 ?_
    rw [nI_add]
    refine fx_iastV dX6_load_123 e2 (vp_in_nI (show N + 1 < 33 by omega) (by decide)) (fun h8 q8 o8 => ?_)
    rw [nI_clamp (by omega)] at q8
    have E8 := E7.ff q8 o8
    have k8 := kp.put k7 o8 (Or.inl (Or.inr (Or.inr (Or.inl rfl))))
    obtain ⟨e0, ⟨e1, e2, e3, e4, e5, e6, e7, e8⟩, -⟩ := id E8
    refine fx_aloadn dX6_load_124 rfl ?_
    refine fx_get dX6_load_125 ffX6_45 (by assumption) rfl ?_
    refine fx_iconst (nI 1) dX6_load_128 (by decide) ?_
    refine fx_isub dX6_load_129 ?_
    refine fx_iret dX6_load_130 rfl ?_
    refine ⟨?_, ⟨fb, _, _, ft2, fp2, fh2, fk, fc, _, E8, ⟨fun k hk => ?_, fun k hk => ?_, fun i hi => absurd hi (Nat.not_lt_zero _)⟩, hI, by omega, ?_, hI9, fun k hk => ?_⟩, k8⟩
    · rw [pk_sub (by omega)]
      rfl
    · by_cases q : k = N + 1
      · rw [q, pk_us]
        show nI (ro F N + len) = nI (ro (fnew F N (by_ B len, ml_H (by_ B len) 0, ml_z (by_ B len) x)) N + 4 * (fnew F N (by_ B len, ml_H (by_ B len) 0, ml_z (by_ B len) x) N).2.1)
        rw [ro_ext (F := F) N (fun j hj => fnew_n (by omega)), fnew_s]
        exact congrArg (fun t => nI (ro F N + t)) hnb.1
      · rw [pk_un q, ro_ext k (fun j hj => fnew_n (by omega))]
        exact hv.1 k (by omega)
    · by_cases q : k = N
      · rw [q, fnew_s, pk_us, ro_ext N (fun j hj => fnew_n (by omega))]
        refine ⟨(by show _ = ml_z (by_ B len) x; unfold ml_z; rw [if_neg hz]), fun i hi => ?_⟩
        have hi2 : i < len := by have h9 : i < 4 * ml_H (by_ B len) 0 := hi; omega
        rw [hv.2.2 i hi2]
        show _ = nI (if i < len then B i else 0)
        rw [if_pos hi2]
      · rw [fnew_n q, pk_un q, ro_ext k (fun j hj => fnew_n (by omega))]
        exact hv.2.1 k (by omega)
    · show ro (fnew F N (by_ B len, ml_H (by_ B len) 0, ml_z (by_ B len) x)) N + 4 * (fnew F N (by_ B len, ml_H (by_ B len) 0, ml_z (by_ B len) x) N).2.1 + 0 ≤ 4096
      rw [ro_ext N (fun j hj => fnew_n (by omega)), fnew_s]
      have h9 := hnb.1
      show ro F N + 4 * ml_H (by_ B len) 0 + 0 ≤ 4096
      omega
    · by_cases q : k = N
      · rw [q, fnew_s]
        exact hnb.2
      · rw [fnew_n q]
        exact hfk k (by omega)
