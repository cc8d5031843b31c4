/-! FontDesk$Setting: begin, and a new one -/
def wdf (B : Nat → Nat) : Nat → Nat → List sg
  | _, 0 => []
  | k, n + 1 => (0, nI (B k)) :: wdf B (k + 1) n
theorem wdf_len (B : Nat → Nat) : ∀ (n k : Nat), (wdf B k n).length = n := by
  intro n
  induction n with
  | zero => intro k; rfl
  | succ n ih => intro k; show (wdf B (k + 1) n).length + 1 = n + 1; rw [ih]
def mz_ok9 (b B : Nat → Nat) (len : Nat) : Prop := len ≤ 200 ∧ ∀ j, j < len → ml_i b (B j) ≠ 0
theorem wdf_g {b B : Nat → Nat} {len : Nat} (hB : ∀ j, j < len → B j < 256) (h : ∀ j, j < len → ml_i b (B j) ≠ 0) : ∀ (n k : Nat), k + n = len → gA b (wdf B k n ++ [(3, ml_bd b)]) := by
  intro n
  induction n with
  | zero => intro k _; exact ⟨Or.inr ⟨rfl, rfl⟩, trivial⟩
  | succ n ih => intro k hk; exact ⟨Or.inl ⟨Or.inl rfl, B k, hB k (by omega), rfl, h k (by omega)⟩, ih (k + 1) (by omega)⟩

theorem l_se_begin {g : fx_G} {h0 : fx_H} {a pik pic pak pac : Nat} {S : Nat → Prop} {f nw : Nat} {b : Nat → Nat} {z : Int32} (V : ml_v b nw) (HF : ∀ h', kp (sS a pik pic pak pac) h0 h' → fo S h' f b nw z) {q p m len : Nat} {B : Nat → Nat} (HD : ∀ h', kp (sS a pik pic pak pac) h0 h' → dr h' q p m len B) (hlen : len ≤ 200) {x : sg} {pr : Nat} : ∀ (k : Nat) (h : fx_H), k ≤ len → sw h a pik pic pak pac [] 0 x (wdf B k (len - k) ++ [(3, ml_bd b)]) pr → (∀ j, k ≤ j → j < len → ml_i b (B j) ≠ 0) → kp (sS a pik pic pak pac) h0 h → ∀ i : Int32, i = (match k with | 0 => -1 | j + 1 => nI j) → fx_Y g mX4_begin 3 64 (fun r h' => ((mz_ok9 b B len ∧ r = some (.int (nI 1)) ∧ sw h' a pik pic pak pac [] 0 (3, nI 256) (wdf B 0 len ++ [(3, ml_bd b)]) (len + 2)) ∨ (¬ mz_ok9 b B len ∧ r = some (.int (nI 0)) ∧ ∃ x A pr, sw h' a pik pic pak pac [] 0 x A pr)) ∧ kp (sS a pik pic pak pac) h0 h') (fun _ _ => False) 37 [(0, .ref a), (1, .ref f), (2, .ref q), (3, .int i)] [] h 0 0 := by
  intro k
  induction k using Nat.strongRecOn with
  | ind k ih =>
  intro h hkl E hgd hk i hi
  have H := HF h hk
  have D := HD h hk
  obtain ⟨hff, hf1⟩ := H.at
  obtain ⟨hd1, -⟩ := id D
  cases k with
  | zero =>
    subst hi
    refine fx_iloadn dX4_begin_37 rfl ?_
    refine fx_if_lt 71 dX4_begin_38 (by decide) (fun c38 => ?_) (fun c38 => absurd (by decide) c38)
    refine fx_aloadn dX4_begin_71 rfl ?_
    refine fx_iconst (nI 3) dX4_begin_72 (by decide) ?_
    obtain ⟨fk1, fc1, gk1, gc1, e1, hI1, hA1⟩ := id E
    refine fx_putV dX4_begin_73 ffX4_26 e1.1 rfl rfl (Nat.le_of_ble_eq_true rfl) (fun h1 q1 o1 => ?_)
    have E1 : sw h1 a pik pic pak pac [] 0 (3, x.2) (wdf B 0 len ++ [(3, ml_bd b)]) pr := ⟨fk1, fc1, gk1, gc1, e1.obj q1 o1, hI1, hA1⟩
    have k1 := kp.put hk o1 (Or.inl (Or.inl rfl))
    refine fx_aloadn dX4_begin_76 rfl ?_
    refine fx_sipush (nI 256) dX4_begin_77 (by decide) ?_
    obtain ⟨fk2, fc2, gk2, gc2, e2, hI2, hA2⟩ := id E1
    refine fx_putV dX4_begin_80 ffX4_31 e2.1 rfl rfl (Nat.le_of_ble_eq_true rfl) (fun h2 q2 o2 => ?_)
    have E2 : sw h2 a pik pic pak pac [] 0 (3, nI 256) (wdf B 0 len ++ [(3, ml_bd b)]) pr := ⟨fk2, fc2, gk2, gc2, e2.obj q2 o2, hI2, hA2⟩
    have k2 := kp.put k1 o2 (Or.inl (Or.inl rfl))
    obtain ⟨hd2, -⟩ := HD _ k2
    refine fx_aloadn dX4_begin_83 rfl ?_
    refine fx_aloadn dX4_begin_84 rfl ?_
    refine fx_callVp dX4_begin_85 vX0_size kkX4_49 rfl rfl (by assumption) (p_dr_size (HD _ k2)) rfl (by decide) (by decide) rfl (Nat.le_of_ble_eq_true rfl) ?_
    refine fx_iconst (nI 2) dX4_begin_88 (by decide) ?_
    refine fx_iadd dX4_begin_89 ?_
    rw [nI_add]
    obtain ⟨fk3, fc3, gk3, gc3, e3, hI3, hA3⟩ := id E2
    refine fx_putV dX4_begin_90 ffX4_43 e3.1 rfl rfl (Nat.le_of_ble_eq_true rfl) (fun h3 q3 o3 => ?_)
    have E3 : sw h3 a pik pic pak pac [] 0 (3, nI 256) (wdf B 0 len ++ [(3, ml_bd b)]) (len + 2) := ⟨fk3, fc3, gk3, gc3, e3.obj q3 o3, hI3, hA3⟩
    have k3 := kp.put k2 o3 (Or.inl (Or.inl rfl))
    refine fx_iconst (nI 1) dX4_begin_93 (by decide) ?_
    refine fx_zret dX4_begin_94 rfl rfl ?_
    exact ⟨Or.inl ⟨⟨hlen, fun j hj => hgd j (by omega) hj⟩, rfl, E3⟩, k3⟩
  | succ j =>
    subst hi
    have hby : by_ B len j = B j := if_pos (by omega)
    have hbl := D.by_lt j
    have hAl : (wdf B (j + 1) (len - (j + 1)) ++ [((3, ml_bd b) : sg)]).length = len - (j + 1) + 1 := by rw [List.length_append, wdf_len]; rfl
    by_cases hc0 : ml_i b (B j) = 0
    · skip
      refine fx_iloadn dX4_begin_37 rfl ?_
      refine fx_if_lt 71 dX4_begin_38 (by decide) (fun c38 => absurd c38 (nI_pos (by omega))) (fun c38 => ?_)
      refine fx_aloadn dX4_begin_41 rfl ?_
      refine fx_aloadn dX4_begin_42 rfl ?_
      refine fx_iloadn dX4_begin_43 rfl ?_
      refine fx_callVp dX4_begin_44 vX0_byteAt kkX4_62 rfl rfl (by assumption) (p_dr_byteAt D j (by omega)) rfl (by decide) (by decide) rfl (Nat.le_of_ble_eq_true rfl) ?_
      refine fx_callVp dX4_begin_47 vX3_hasCharacter kkX4_66 rfl rfl (by assumption) (p_fo_hasCharacter H V _) rfl (by decide) (by decide) rfl (Nat.le_of_ble_eq_true rfl) ?_
      refine fx_if_ne 55 dX4_begin_50 (by decide) (fun c50 => absurd (bI_0.mpr (fun z => z (by rw [hby, ml_iI_n (by omega)]; exact hc0))) c50) (fun c50 => ?_)
      refine fx_iconst (nI 0) dX4_begin_53 (by decide) ?_
      refine fx_zret dX4_begin_54 rfl rfl ?_
      exact ⟨Or.inr ⟨fun z => z.2 j (by omega) hc0, rfl, _, _, _, E⟩, hk⟩
    · skip
      refine fx_iloadn dX4_begin_37 rfl ?_
      refine fx_if_lt 71 dX4_begin_38 (by decide) (fun c38 => absurd c38 (nI_pos (by omega))) (fun c38 => ?_)
      refine fx_aloadn dX4_begin_41 rfl ?_
      refine fx_aloadn dX4_begin_42 rfl ?_
      refine fx_iloadn dX4_begin_43 rfl ?_
      refine fx_callVp dX4_begin_44 vX0_byteAt kkX4_62 rfl rfl (by assumption) (p_dr_byteAt D j (by omega)) rfl (by decide) (by decide) rfl (Nat.le_of_ble_eq_true rfl) ?_
      refine fx_callVp dX4_begin_47 vX3_hasCharacter kkX4_66 rfl rfl (by assumption) (p_fo_hasCharacter H V _) rfl (by decide) (by decide) rfl (Nat.le_of_ble_eq_true rfl) ?_
      refine fx_if_ne 55 dX4_begin_50 (by decide) (fun c50 => ?_) (fun c50 => absurd c50 (bI_n0.mpr (by rw [hby, ml_iI_n (by omega)]; exact hc0)))
      refine fx_aloadn dX4_begin_55 rfl ?_
      refine fx_iconst (nI 0) dX4_begin_56 (by decide) ?_
      refine fx_aloadn dX4_begin_57 rfl ?_
      refine fx_iloadn dX4_begin_58 rfl ?_
      refine fx_callVp dX4_begin_59 vX0_byteAt kkX4_62 rfl rfl (by assumption) (p_dr_byteAt D j (by omega)) rfl (by decide) (by decide) rfl (Nat.le_of_ble_eq_true rfl) ?_
      obtain ⟨fs1, at1⟩ := E.at
      refine fx_callV dX4_begin_62 vX4_push kkX4_58 rfl rfl at1 (c_se_push E (0, nI (by_ B len j)) (by rw [hAl]; omega)) rfl (by decide) (by decide) (Nat.zero_le _) (Nat.zero_le _) rfl (Nat.le_of_ble_eq_true rfl) (fun r1 h1 hk1 => ?_)
      obtain ⟨rfl, E1, k1⟩ := hk1
      refine fx_iinc (-1) dX4_begin_65 rfl (by decide) (by decide) ?_
      refine fx_goto 37 dX4_begin_68 (by decide) ?_
      rw [hby] at E1
      have E2 : sw h1 a pik pic pak pac [] 0 x (wdf B j (len - j) ++ [(3, ml_bd b)]) pr := by
        rw [show len - j = len - (j + 1) + 1 by omega]
        exact E1
      refine fx_to (ih j (by omega) h1 (by omega) E2 (fun i h1 h2 => ?_) (hk.tr k1 (fun _ z _ => z)) _ rfl) ⟨rfl, rfl, rfl, ?_, trivial⟩
      · by_cases q9 : i = j
        · rw [q9]
          exact hc0
        · exact hgd i (by omega) h2
      · cases j with
        | zero => rfl
        | succ j =>
          show some (Value.int (nI (j + 1) + (-1))) = some (Value.int (nI j))
          rw [pk_m1]
theorem c_se_begin {g : fx_G} {h : fx_H} {a pik pic pak pac pr : Nat} {I A : List sg} {x : sg} {tot : Int64} {S : Nat → Prop} {f nw : Nat} {b : Nat → Nat} {z : Int32} (V : ml_v b nw) (HF : ∀ h', kp (sS a pik pic pak pac) h h' → fo S h' f b nw z) {q p m len : Nat} {B : Nat → Nat} (HD : ∀ h', kp (sS a pik pic pak pac) h h' → dr h' q p m len B) (E : sw h a pik pic pak pac I tot x A pr) : fx_Met g mX4_begin 3 64 [.ref a, .ref f, .ref q] h 0 0 (fun r h' => ((mz_ok9 b B len ∧ r = some (.int (nI 1)) ∧ sw h' a pik pic pak pac [] 0 (3, nI 256) (wdf B 0 len ++ [(3, ml_bd b)]) (len + 2)) ∨ (¬ mz_ok9 b B len ∧ r = some (.int (nI 0)) ∧ ∃ x A pr, sw h' a pik pic pak pac [] 0 x A pr)) ∧ kp (sS a pik pic pak pac) h h') := by
  have hlm : len < 2 ^ 31 := by
    obtain ⟨-, h1, h2, -⟩ := HD h kp.rf
    omega
  refine fx_Met.of rfl (Nat.le_of_ble_eq_true rfl) ?_
  by_cases hl2 : len ≤ 200
  · skip
    refine fx_aloadn dX4_begin_0 rfl ?_
    obtain ⟨fs1, at1⟩ := E.at
    refine fx_callV dX4_begin_1 vX4_forget kkX4_46 rfl rfl at1 (c_se_forget E) rfl (by decide) (by decide) (Nat.zero_le _) (Nat.zero_le _) rfl (Nat.le_of_ble_eq_true rfl) (fun r1 h1 hk1 => ?_)
    obtain ⟨rfl, E1, k1⟩ := hk1
    obtain ⟨hd1, -⟩ := HD _ k1
    refine fx_aloadn dX4_begin_4 rfl ?_
    refine fx_callVp dX4_begin_5 vX0_size kkX4_49 rfl rfl (by assumption) (p_dr_size (HD _ k1)) rfl (by decide) (by decide) rfl (Nat.le_of_ble_eq_true rfl) ?_
    refine fx_sipush (nI 200) dX4_begin_8 (by decide) ?_
    refine fx_icmp_le 16 dX4_begin_11 (by decide) (fun c11 => ?_) (fun c11 => absurd (nI_le hl2 (by decide)) c11)
    refine fx_aloadn dX4_begin_16 rfl ?_
    refine fx_iconst (nI 0) dX4_begin_17 (by decide) ?_
    obtain ⟨fk2, fc2, gk2, gc2, e2, hI2, hA2⟩ := id E1
    refine fx_putV dX4_begin_18 ffX4_40 e2.1 rfl rfl (Nat.le_of_ble_eq_true rfl) (fun h2 q2 o2 => ?_)
    have E2 : sw h2 a pik pic pak pac [] 0 x [] pr := ⟨fk2, fc2, gk2, gc2, e2.obj q2 o2, hI2, sl.nil⟩
    have k2 := kp.put (kp.rf (S := sS a pik pic pak pac)) o2 (Or.inl (Or.inl rfl))
    obtain ⟨hff, hf1⟩ := (HF _ (k1.tr k2 (fun _ z _ => z))).at
    refine fx_aloadn dX4_begin_21 rfl ?_
    refine fx_iconst (nI 3) dX4_begin_22 (by decide) ?_
    refine fx_aloadn dX4_begin_23 rfl ?_
    refine fx_callVp dX4_begin_24 vX3_boundary kkX4_55 rfl rfl (by assumption) (p_fo_boundary (HF _ (k1.tr k2 (fun _ z _ => z))) V) rfl (by decide) (by decide) rfl (Nat.le_of_ble_eq_true rfl) ?_
    obtain ⟨fs3, at3⟩ := E2.at
    refine fx_callV dX4_begin_27 vX4_push kkX4_58 rfl rfl at3 (c_se_push E2 (3, ml_bd b) (by decide)) rfl (by decide) (by decide) (Nat.zero_le _) (Nat.zero_le _) rfl (Nat.le_of_ble_eq_true rfl) (fun r3 h3 hk3 => ?_)
    obtain ⟨rfl, E3, k3⟩ := hk3
    obtain ⟨hd3, -⟩ := HD _ (k1.tr (k2.tr k3 (fun _ z _ => z)) (fun _ z _ => z))
    refine fx_aloadn dX4_begin_30 rfl ?_
    refine fx_callVp dX4_begin_31 vX0_size kkX4_49 rfl rfl (by assumption) (p_dr_size (HD _ (k1.tr (k2.tr k3 (fun _ z _ => z)) (fun _ z _ => z)))) rfl (by decide) (by decide) rfl (Nat.le_of_ble_eq_true rfl) ?_
    refine fx_iconst (nI 1) dX4_begin_34 (by decide) ?_
    refine fx_isub dX4_begin_35 ?_
    refine fx_istoren dX4_begin_36 (by decide) ?_
    refine fx_to (l_se_begin V HF HD hl2 len h3 (Nat.le_refl _) (by rw [Nat.sub_self]; exact E3) (fun j h1 h2 => by omega) (k1.tr (k2.tr k3 (fun _ z _ => z)) (fun _ z _ => z)) _ rfl) ⟨rfl, rfl, rfl, ?_, trivial⟩
    cases len with
    | zero => rfl
    | succ n =>
      show some (Value.int (nI (n + 1) - nI 1)) = some (Value.int (nI n))
      rw [pk_sub (by omega)]
      rfl
  · skip
    refine fx_aloadn dX4_begin_0 rfl ?_
    obtain ⟨fs1, at1⟩ := E.at
    refine fx_callV dX4_begin_1 vX4_forget kkX4_46 rfl rfl at1 (c_se_forget E) rfl (by decide) (by decide) (Nat.zero_le _) (Nat.zero_le _) rfl (Nat.le_of_ble_eq_true rfl) (fun r1 h1 hk1 => ?_)
    obtain ⟨rfl, E1, k1⟩ := hk1
    obtain ⟨hd1, -⟩ := HD _ k1
    refine fx_aloadn dX4_begin_4 rfl ?_
    refine fx_callVp dX4_begin_5 vX0_size kkX4_49 rfl rfl (by assumption) (p_dr_size (HD _ k1)) rfl (by decide) (by decide) rfl (Nat.le_of_ble_eq_true rfl) ?_
    refine fx_sipush (nI 200) dX4_begin_8 (by decide) ?_
    refine fx_icmp_le 16 dX4_begin_11 (by decide) (fun c11 => absurd c11 (nI_ge (show 200 < len by omega) (by omega))) (fun c11 => ?_)
    refine fx_iconst (nI 0) dX4_begin_14 (by decide) ?_
    refine fx_zret dX4_begin_15 rfl rfl ?_
    exact ⟨Or.inr ⟨fun z => absurd z.1 (by omega), rfl, _, _, _, E1⟩, k1⟩
theorem c_se_init {g : fx_G} {h : fx_H} {e : Nat} {v0 v1 v2 v3 v4 v5 v6 v7 v8 v9 : Value} (ha : h e = some (.inr (3, [v0, v1, v2, v3, v4, v5, v6, v7, v8, v9]))) : fx_Met g mX4_init 1 30 [.ref e] h 4 4000 (fun r h' => r = none ∧ ∃ pik pic pak pac, sw h' e pik pic pak pac [] 0 (3, nI 256) [] 0 ∧ (h pik = none ∧ h pic = none ∧ h pak = none ∧ h pac = none) ∧ kp (fun x => x = e) h h') := by
  refine fx_Met.of rfl (Nat.le_of_ble_eq_true rfl) ?_
  refine fx_aloadn dX4_init_0 rfl ?_
  refine fx_objInit dX4_init_1 ooX4 oo_i oo_c (by decide) (by decide) (Nat.le_of_ble_eq_true rfl) ?_
  refine fx_aloadn dX4_init_4 rfl ?_
  refine fx_sipush (nI 1000) dX4_init_5 (by decide) ?_
  refine fx_newIV 0 1000 (by decide) rfl dX4_init_8 ac_int (by decide) (by decide) (by decide) (by omega) (by omega) (fun pik g1 hq1 e1 o1 => ?_)
  have ea1 := (o1 e (ne_new ha hq1)).trans ha
  have np_pik : h pik = none := hq1
  have k1 : kp (fun x => x = e) h g1 := kp.put ((kp.rf (S := fun x => x = e))) o1 (Or.inr np_pik)
  have n_pik : pik ≠ e := Ne.symm (ne_oa ea1 e1)
  refine fx_putFV dX4_init_10 ffX4_11 rfl rfl ea1 rfl rfl (Nat.le_of_ble_eq_true rfl) (fun g2 e2 o2 => ?_)
  have f_pik_2 := (o2 pik n_pik).trans e1
  have k2 : kp (fun x => x = e) h g2 := kp.put (k1) o2 (Or.inl rfl)
  refine fx_aloadn dX4_init_13 rfl ?_
  refine fx_sipush (nI 1000) dX4_init_14 (by decide) ?_
  refine fx_newIV 0 1000 (by decide) rfl dX4_init_17 ac_int (by decide) (by decide) (by decide) (by omega) (by omega) (fun pic g3 hq3 e3 o3 => ?_)
  have ea3 := (o3 e (ne_new e2 hq3)).trans e2
  have f_pik_3 := (o3 pik (ne_new f_pik_2 hq3)).trans f_pik_2
  have np_pic : h pic = none := fresh_of k2 hq3 (fun z => by subst z; rw [e2] at hq3; cases hq3)
  have ne_pik_pic : pik ≠ pic := ne_new f_pik_2 hq3
  have k3 : kp (fun x => x = e) h g3 := kp.put (k2) o3 (Or.inr np_pic)
  have n_pic : pic ≠ e := Ne.symm (ne_oa ea3 e3)
  refine fx_putFV dX4_init_19 ffX4_15 rfl rfl ea3 rfl rfl (Nat.le_of_ble_eq_true rfl) (fun g4 e4 o4 => ?_)
  have f_pik_4 := (o4 pik n_pik).trans f_pik_3
  have f_pic_4 := (o4 pic n_pic).trans e3
  have k4 : kp (fun x => x = e) h g4 := kp.put (k3) o4 (Or.inl rfl)
  refine fx_aloadn dX4_init_22 rfl ?_
  refine fx_iconst (nI 0) dX4_init_23 (by decide) ?_
  refine fx_putV dX4_init_24 ffX4_18 e4 rfl rfl (Nat.le_of_ble_eq_true rfl) (fun g5 e5 o5 => ?_)
  have f_pik_5 := (o5 pik n_pik).trans f_pik_4
  have f_pic_5 := (o5 pic n_pic).trans f_pic_4
  have k5 : kp (fun x => x = e) h g5 := kp.put (k4) o5 (Or.inl rfl)
  refine fx_aloadn dX4_init_27 rfl ?_
  refine fx_lconst 0 dX4_init_28 (by decide) ?_
  refine fx_putV dX4_init_29 ffX4_22 e5 rfl rfl (Nat.le_of_ble_eq_true rfl) (fun g6 e6 o6 => ?_)
  have f_pik_6 := (o6 pik n_pik).trans f_pik_5
  have f_pic_6 := (o6 pic n_pic).trans f_pic_5
  have k6 : kp (fun x => x = e) h g6 := kp.put (k5) o6 (Or.inl rfl)
  refine fx_aloadn dX4_init_32 rfl ?_
  refine fx_iconst (nI 3) dX4_init_33 (by decide) ?_
  refine fx_putV dX4_init_34 ffX4_26 e6 rfl rfl (Nat.le_of_ble_eq_true rfl) (fun g7 e7 o7 => ?_)
  have f_pik_7 := (o7 pik n_pik).trans f_pik_6
  have f_pic_7 := (o7 pic n_pic).trans f_pic_6
  have k7 : kp (fun x => x = e) h g7 := kp.put (k6) o7 (Or.inl rfl)
  refine fx_aloadn dX4_init_37 rfl ?_
  refine fx_sipush (nI 256) dX4_init_38 (by decide) ?_
  refine fx_putV dX4_init_41 ffX4_31 e7 rfl rfl (Nat.le_of_ble_eq_true rfl) (fun g8 e8 o8 => ?_)
  have f_pik_8 := (o8 pik n_pik).trans f_pik_7
  have f_pic_8 := (o8 pic n_pic).trans f_pic_7
  have k8 : kp (fun x => x = e) h g8 := kp.put (k7) o8 (Or.inl rfl)
  refine fx_aloadn dX4_init_44 rfl ?_
  refine fx_sipush (nI 1000) dX4_init_45 (by decide) ?_
  refine fx_newIV 0 1000 (by decide) rfl dX4_init_48 ac_int (by decide) (by decide) (by decide) (by omega) (by omega) (fun pak g9 hq9 e9 o9 => ?_)
  have ea9 := (o9 e (ne_new e8 hq9)).trans e8
  have f_pik_9 := (o9 pik (ne_new f_pik_8 hq9)).trans f_pik_8
  have f_pic_9 := (o9 pic (ne_new f_pic_8 hq9)).trans f_pic_8
  have np_pak : h pak = none := fresh_of k8 hq9 (fun z => by subst z; rw [e8] at hq9; cases hq9)
  have ne_pik_pak : pik ≠ pak := ne_new f_pik_8 hq9
  have ne_pic_pak : pic ≠ pak := ne_new f_pic_8 hq9
  have k9 : kp (fun x => x = e) h g9 := kp.put (k8) o9 (Or.inr np_pak)
  have n_pak : pak ≠ e := Ne.symm (ne_oa ea9 e9)
  refine fx_putFV dX4_init_50 ffX4_34 rfl rfl ea9 rfl rfl (Nat.le_of_ble_eq_true rfl) (fun g10 e10 o10 => ?_)
  have f_pik_10 := (o10 pik n_pik).trans f_pik_9
  have f_pic_10 := (o10 pic n_pic).trans f_pic_9
  have f_pak_10 := (o10 pak n_pak).trans e9
  have k10 : kp (fun x => x = e) h g10 := kp.put (k9) o10 (Or.inl rfl)
  refine fx_aloadn dX4_init_53 rfl ?_
  refine fx_sipush (nI 1000) dX4_init_54 (by decide) ?_
  refine fx_newIV 0 1000 (by decide) rfl dX4_init_57 ac_int (by decide) (by decide) (by decide) (by omega) (by omega) (fun pac g11 hq11 e11 o11 => ?_)
  have ea11 := (o11 e (ne_new e10 hq11)).trans e10
  have f_pik_11 := (o11 pik (ne_new f_pik_10 hq11)).trans f_pik_10
  have f_pic_11 := (o11 pic (ne_new f_pic_10 hq11)).trans f_pic_10
  have f_pak_11 := (o11 pak (ne_new f_pak_10 hq11)).trans f_pak_10
  have np_pac : h pac = none := fresh_of k10 hq11 (fun z => by subst z; rw [e10] at hq11; cases hq11)
  have ne_pik_pac : pik ≠ pac := ne_new f_pik_10 hq11
  have ne_pic_pac : pic ≠ pac := ne_new f_pic_10 hq11
  have ne_pak_pac : pak ≠ pac := ne_new f_pak_10 hq11
  have k11 : kp (fun x => x = e) h g11 := kp.put (k10) o11 (Or.inr np_pac)
  have n_pac : pac ≠ e := Ne.symm (ne_oa ea11 e11)
  refine fx_putFV dX4_init_59 ffX4_37 rfl rfl ea11 rfl rfl (Nat.le_of_ble_eq_true rfl) (fun g12 e12 o12 => ?_)
  have f_pik_12 := (o12 pik n_pik).trans f_pik_11
  have f_pic_12 := (o12 pic n_pic).trans f_pic_11
  have f_pak_12 := (o12 pak n_pak).trans f_pak_11
  have f_pac_12 := (o12 pac n_pac).trans e11
  have k12 : kp (fun x => x = e) h g12 := kp.put (k11) o12 (Or.inl rfl)
  refine fx_aloadn dX4_init_62 rfl ?_
  refine fx_iconst (nI 0) dX4_init_63 (by decide) ?_
  refine fx_putV dX4_init_64 ffX4_40 e12 rfl rfl (Nat.le_of_ble_eq_true rfl) (fun g13 e13 o13 => ?_)
  have f_pik_13 := (o13 pik n_pik).trans f_pik_12
  have f_pic_13 := (o13 pic n_pic).trans f_pic_12
  have f_pak_13 := (o13 pak n_pak).trans f_pak_12
  have f_pac_13 := (o13 pac n_pac).trans f_pac_12
  have k13 : kp (fun x => x = e) h g13 := kp.put (k12) o13 (Or.inl rfl)
  refine fx_aloadn dX4_init_67 rfl ?_
  refine fx_iconst (nI 0) dX4_init_68 (by decide) ?_
  refine fx_putV dX4_init_69 ffX4_43 e13 rfl rfl (Nat.le_of_ble_eq_true rfl) (fun g14 e14 o14 => ?_)
  have f_pik_14 := (o14 pik n_pik).trans f_pik_13
  have f_pic_14 := (o14 pic n_pic).trans f_pic_13
  have f_pak_14 := (o14 pak n_pak).trans f_pak_13
  have f_pac_14 := (o14 pac n_pac).trans f_pac_13
  have k14 : kp (fun x => x = e) h g14 := kp.put (k13) o14 (Or.inl rfl)
  refine fx_vret dX4_init_72 rfl ?_
  exact ⟨rfl, pik, pic, pak, pac, ⟨_, _, _, _, ⟨e14, f_pik_14, f_pic_14, f_pak_14, f_pac_14, ⟨ne_pik_pic, ne_pik_pak, ne_pik_pac⟩, ⟨ne_pic_pak, ne_pic_pac⟩, ne_pak_pac⟩, sl.nil, sl.nil⟩, ⟨np_pik, np_pic, np_pak, np_pac⟩, k14⟩
