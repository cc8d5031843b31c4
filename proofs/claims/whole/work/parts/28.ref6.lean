/-! FontDeskModel: allEnd() -/
def zw (v : Int32) : Nat := if v = 0 then 1 else 0
def rE (x y x' y' : Nat) : Prop := x' ≤ 256 ∧ y' < 256 ∧ (x' < x ∨ x' = x ∧ y' < y)
def rI (b : Nat → Nat) (G : Nat → Nat → Nat) (x y : Nat) (Qa : Prop) : Prop := (∀ x' y', rE x y x' y' → ml_tt b x' y' ≠ -1 → G x' y' = 0 → ml_lk b G x' y' = 0) ∧ (Qa ↔ ∀ x' y', rE x y x' y' → G x' y' ≠ 0)
theorem rI.z {b : Nat → Nat} {G : Nat → Nat → Nat} : rI b G 0 0 True := ⟨fun x' y' q => by unfold rE at q; omega, fun _ x' y' q => by unfold rE at q; omega, fun _ => trivial⟩
/-- a pair that is known, or for which no step is -/
theorem rI.k {b : Nat → Nat} {G : Nat → Nat → Nat} {x y x2 y2 : Nat} {Qa : Prop} (I : rI b G x y Qa) (hs : ∀ x' y', rE x2 y2 x' y' → rE x y x' y' ∨ G x' y' ≠ 0) (hs2 : ∀ x' y', rE x y x' y' → rE x2 y2 x' y') : rI b G x2 y2 Qa := by
  refine ⟨fun x' y' q ht h0 => ?_, fun q x' y' z => ?_, fun q => I.2.mpr (fun x' y' z => q x' y' (hs2 x' y' z))⟩
  · rcases hs x' y' q with z | z
    · exact I.1 x' y' z ht h0
    · exact absurd h0 z
  · rcases hs x' y' z with r | r
    · exact I.2.mp q x' y' r
    · exact r
/-- a pair of which nothing is learned -/
theorem rI.u {b : Nat → Nat} {G : Nat → Nat → Nat} {x y : Nat} {Qa : Prop} (I : rI b G x y Qa) (hx : x ≤ 256) (hy : y < 256) (h0 : G x y = 0) (hl : ml_lk b G x y = 0) : rI b G x (y + 1) False := by
  refine ⟨fun x' y' q ht h1 => ?_, fun q => q.elim, fun q => q x y ⟨hx, hy, Or.inr ⟨rfl, by omega⟩⟩ h0⟩
  by_cases z : x' = x ∧ y' = y
  · rw [z.1, z.2]
    exact hl
  · exact I.1 x' y' (by unfold rE at q ⊢; omega) ht h1
theorem rK.same {b : Nat → Nat} {fp : Nat → Int32} {G : Nat → Nat → Nat} (K : rK b fp G) {x y : Nat} (hx : x ≤ 256) (hy : y < 256) (h0 : G x y = 0) (ht : ml_tt b x y ≠ -1) : upd fp (256 * x + y) (nI 0) = fp := by
  funext q
  by_cases e : q = 256 * x + y
  · rw [e, pk_us, (K x y hx hy).2.2.1 ht, h0]
  · exact pk_un e

theorem l_rf_pass {g : fx_G} {h0 : fx_H} {a pt pp ph lim nw cu su : Nat} {b : Nat → Nat} (V : ml_v b nw) (hl : 4 * nw ≤ lim) (F3 : ml_F3a b) (F5 : ml_f5 b) (N : pt ≠ pp) (HR : ∀ h', kp (rS pt pp ph) h0 h' → rd h' a b lim) (ft fh : Nat → Int32) (P9 : rP b ft fh) (Z : Nat) (KK : Option Value → fx_H → Prop) (J : ∀ (h : fx_H) (fp : Nat → Int32) (G : Nat → Nat → Nat) (Pm Qa : Prop) (lv : List (Nat × Value)), fx_le [(0, .ref a), (1, .int (bI Pm)), (2, .int (bI Qa))] lv → ra h a pt pp ph ft fp fh → rK b fp G → kp (rS pt pp ph) h0 h → (¬ Pm → rI b G 257 0 Qa) → (Pm → sm zw fp 65792 < Z) → fx_Y g mX6_allEnd 9 199 KK (fun _ _ => False) 8 lv [] h cu su) : ∀ (m : Nat) (h : fx_H) (x y : Nat) (fp : Nat → Int32) (G : Nat → Nat → Nat) (Pm Qa : Prop), x ≤ 256 → y ≤ 256 → 257 * x + y + m = 257 * 257 → ra h a pt pp ph ft fp fh → rK b fp G → kp (rS pt pp ph) h0 h → (¬ Pm → rI b G x y Qa) → sm zw fp 65792 ≤ Z → (Pm → sm zw fp 65792 < Z) → fx_Y g mX6_allEnd 9 199 KK (fun _ _ => False) 28 [(0, .ref a), (1, .int (bI Pm)), (2, .int (bI Qa)), (3, .int (nI x)), (4, .int (nI y))] [] h cu su := by
  have hNL := V.rl (r := 6) (by decide)
  intro m
  induction m using Nat.strongRecOn with
  | ind m ih =>
  intro h x y fp G Pm Qa hx hy9 hm E K9 hk hI hZ0 hZ
  obtain ⟨F, g1, g8, g9, g10, t1, t2, t3⟩ := id E
  have D := HR h hk
  by_cases hy : y = 256
  · skip
    by_cases hx6 : x = 256
    · subst hx6
      refine fx_iload dX6_allEnd_28 rfl ?_
      refine fx_sipush (nI 256) dX6_allEnd_30 (by decide) ?_
      refine fx_icmp_ge 135 dX6_allEnd_33 (by decide) (fun c33 => ?_) (fun c33 => absurd (nI_le (by omega) (by omega)) c33)
      refine fx_iinc (nI 1) dX6_allEnd_135 rfl (by decide) (by decide) ?_
      refine fx_goto 18 dX6_allEnd_138 (by decide) ?_
      simp only [nI_add]
      refine fx_iloadn dX6_allEnd_18 rfl ?_
      refine fx_sipush (nI 256) dX6_allEnd_19 (by decide) ?_
      refine fx_icmp_gt 141 dX6_allEnd_22 (by decide) (fun c22 => ?_) (fun c22 => absurd (nI_lt (show 256 < 256 + 1 by decide) (by decide)) c22)
      refine fx_goto 8 dX6_allEnd_141 (by decide) ?_
      exact J h fp G Pm Qa _ ⟨rfl, rfl, rfl, trivial⟩ E K9 hk (fun q => (hI q).k (fun x' y' z => Or.inl (by unfold rE at z ⊢; omega)) (fun x' y' z => by unfold rE at z ⊢; omega)) hZ
    · skip
      refine fx_iload dX6_allEnd_28 rfl ?_
      refine fx_sipush (nI 256) dX6_allEnd_30 (by decide) ?_
      refine fx_icmp_ge 135 dX6_allEnd_33 (by decide) (fun c33 => ?_) (fun c33 => absurd (nI_le (by omega) (by omega)) c33)
      refine fx_iinc (nI 1) dX6_allEnd_135 rfl (by decide) (by decide) ?_
      refine fx_goto 18 dX6_allEnd_138 (by decide) ?_
      simp only [nI_add]
      refine fx_iloadn dX6_allEnd_18 rfl ?_
      refine fx_sipush (nI 256) dX6_allEnd_19 (by decide) ?_
      refine fx_icmp_gt 141 dX6_allEnd_22 (by decide) (fun c22 => absurd c22 (nI_nlt (show x + 1 ≤ 256 by omega) (by decide))) (fun c22 => ?_)
      refine fx_iconst (nI 0) dX6_allEnd_25 (by decide) ?_
      refine fx_istore dX6_allEnd_26 (by decide) ?_
      exact fx_to (ih (m - (257 - y)) (by omega) h (x + 1) 0 fp G Pm Qa (by omega) (by omega) (by omega) E K9 hk (fun q => (hI q).k (fun x' y' z => Or.inl (by unfold rE at z ⊢; omega)) (fun x' y' z => by unfold rE at z ⊢; omega)) hZ0 hZ) ⟨rfl, rfl, rfl, rfl, rfl, trivial⟩
  replace hy : y < 256 := by omega
  by_cases hp : ml_ps b x = -1
  · skip
    by_cases hx6 : x = 256
    · subst hx6
      refine fx_iload dX6_allEnd_28 rfl ?_
      refine fx_sipush (nI 256) dX6_allEnd_30 (by decide) ?_
      refine fx_icmp_ge 135 dX6_allEnd_33 (by decide) (fun c33 => absurd c33 (nI_ge hy (by decide))) (fun c33 => ?_)
      refine fx_aloadn dX6_allEnd_36 rfl ?_
      refine fx_get dX6_allEnd_37 ffX6_27 (by assumption) (by assumption) ?_
      refine fx_iloadn dX6_allEnd_40 rfl ?_
      refine fx_zald dX6_allEnd_41 t3 (vp_in_nI (show _ < 257 by omega) (by decide)) ?_
      rw [nI_clamp (by omega), P9.1 _ hx]
      refine fx_if_eq 135 dX6_allEnd_42 (by decide) (fun c42 => ?_) (fun c42 => absurd (bI_0.mpr (fun q => q hp)) c42)
      refine fx_iinc (nI 1) dX6_allEnd_135 rfl (by decide) (by decide) ?_
      refine fx_goto 18 dX6_allEnd_138 (by decide) ?_
      simp only [nI_add]
      refine fx_iloadn dX6_allEnd_18 rfl ?_
      refine fx_sipush (nI 256) dX6_allEnd_19 (by decide) ?_
      refine fx_icmp_gt 141 dX6_allEnd_22 (by decide) (fun c22 => ?_) (fun c22 => absurd (nI_lt (show 256 < 256 + 1 by decide) (by decide)) c22)
      refine fx_goto 8 dX6_allEnd_141 (by decide) ?_
      exact J h fp G Pm Qa _ ⟨rfl, rfl, rfl, trivial⟩ E K9 hk (fun q => (hI q).k (fun x' y' z => if q9 : x' = 256 then Or.inr (by rw [(K9 x' y' z.1 z.2.1).2.1 (tt_nops (by rw [q9]; exact hp))]; omega) else Or.inl (by unfold rE at z ⊢; omega)) (fun x' y' z => by unfold rE at z ⊢; omega)) hZ
    · skip
      refine fx_iload dX6_allEnd_28 rfl ?_
      refine fx_sipush (nI 256) dX6_allEnd_30 (by decide) ?_
      refine fx_icmp_ge 135 dX6_allEnd_33 (by decide) (fun c33 => absurd c33 (nI_ge hy (by decide))) (fun c33 => ?_)
      refine fx_aloadn dX6_allEnd_36 rfl ?_
      refine fx_get dX6_allEnd_37 ffX6_27 (by assumption) (by assumption) ?_
      refine fx_iloadn dX6_allEnd_40 rfl ?_
      refine fx_zald dX6_allEnd_41 t3 (vp_in_nI (show _ < 257 by omega) (by decide)) ?_
      rw [nI_clamp (by omega), P9.1 _ hx]
      refine fx_if_eq 135 dX6_allEnd_42 (by decide) (fun c42 => ?_) (fun c42 => absurd (bI_0.mpr (fun q => q hp)) c42)
      refine fx_iinc (nI 1) dX6_allEnd_135 rfl (by decide) (by decide) ?_
      refine fx_goto 18 dX6_allEnd_138 (by decide) ?_
      simp only [nI_add]
      refine fx_iloadn dX6_allEnd_18 rfl ?_
      refine fx_sipush (nI 256) dX6_allEnd_19 (by decide) ?_
      refine fx_icmp_gt 141 dX6_allEnd_22 (by decide) (fun c22 => absurd c22 (nI_nlt (show x + 1 ≤ 256 by omega) (by decide))) (fun c22 => ?_)
      refine fx_iconst (nI 0) dX6_allEnd_25 (by decide) ?_
      refine fx_istore dX6_allEnd_26 (by decide) ?_
      exact fx_to (ih (m - (257 - y)) (by omega) h (x + 1) 0 fp G Pm Qa (by omega) (by omega) (by omega) E K9 hk (fun q => (hI q).k (fun x' y' z => if q9 : x' = x then Or.inr (by rw [(K9 x' y' z.1 z.2.1).2.1 (tt_nops (by rw [q9]; exact hp))]; omega) else Or.inl (by unfold rE at z ⊢; omega)) (fun x' y' z => by unfold rE at z ⊢; omega)) hZ0 hZ) ⟨rfl, rfl, rfl, rfl, rfl, trivial⟩
  by_cases ht : ml_tt b x y = -1
  · have hG9 : G x y ≠ 0 := by rw [(K9 x y hx hy).2.1 ht]; omega
    refine fx_iload dX6_allEnd_28 rfl ?_
    refine fx_sipush (nI 256) dX6_allEnd_30 (by decide) ?_
    refine fx_icmp_ge 135 dX6_allEnd_33 (by decide) (fun c33 => absurd c33 (nI_ge hy (by decide))) (fun c33 => ?_)
    refine fx_aloadn dX6_allEnd_36 rfl ?_
    refine fx_get dX6_allEnd_37 ffX6_27 (by assumption) (by assumption) ?_
    refine fx_iloadn dX6_allEnd_40 rfl ?_
    refine fx_zald dX6_allEnd_41 t3 (vp_in_nI (show x < 257 by omega) (by decide)) ?_
    rw [nI_clamp (by omega), P9.1 x hx]
    refine fx_if_eq 135 dX6_allEnd_42 (by decide) (fun c42 => absurd c42 (bI_n0.mpr hp)) (fun c42 => ?_)
    refine fx_sipush (nI 256) dX6_allEnd_45 (by decide) ?_
    refine fx_iloadn dX6_allEnd_48 rfl ?_
    refine fx_imul dX6_allEnd_49 ?_
    rw [pk_mul]
    refine fx_iload dX6_allEnd_50 rfl ?_
    refine fx_iadd dX6_allEnd_52 ?_
    rw [nI_add]
    refine fx_istore dX6_allEnd_53 (by decide) ?_
    refine fx_aloadn dX6_allEnd_55 rfl ?_
    refine fx_get dX6_allEnd_56 ffX6_21 (by assumption) (by assumption) ?_
    refine fx_iload dX6_allEnd_59 rfl ?_
    refine fx_iald dX6_allEnd_61 t1 (vp_in_nI (show 256 * x + y < 65792 by omega) (by decide)) ?_
    rw [nI_clamp (by omega), P9.2 x y hx hy hp]
    refine fx_if_le 129 dX6_allEnd_62 (by decide) (fun c62 => ?_) (fun c62 => absurd (by rw [ht]; decide) c62)
    refine fx_iinc (nI 1) dX6_allEnd_129 rfl (by decide) (by decide) ?_
    refine fx_goto 28 dX6_allEnd_132 (by decide) ?_
    simp only [nI_add]
    exact fx_to (ih (m - 1) (by omega) h x (y + 1) fp G Pm Qa (by omega) (by omega) (by omega) E K9 hk (fun q => (hI q).k (fun x' y' z => if q9 : x' = x ∧ y' = y then Or.inr (by rw [q9.1, q9.2]; exact hG9) else Or.inl (by unfold rE at z ⊢; omega)) (fun x' y' z => by unfold rE at z ⊢; omega)) hZ0 hZ) ⟨rfl, rfl, rfl, rfl, rfl, trivial⟩
  rcases tt_ok1 V F3 F5 (y := y) hx with z | ⟨j, hj, htj⟩
  · exact absurd z ht
  have hGl := (K9 x y hx hy).1
  by_cases hG9 : G x y ≠ 0
  · skip
    refine fx_iload dX6_allEnd_28 rfl ?_
    refine fx_sipush (nI 256) dX6_allEnd_30 (by decide) ?_
    refine fx_icmp_ge 135 dX6_allEnd_33 (by decide) (fun c33 => absurd c33 (nI_ge hy (by decide))) (fun c33 => ?_)
    refine fx_aloadn dX6_allEnd_36 rfl ?_
    refine fx_get dX6_allEnd_37 ffX6_27 (by assumption) (by assumption) ?_
    refine fx_iloadn dX6_allEnd_40 rfl ?_
    refine fx_zald dX6_allEnd_41 t3 (vp_in_nI (show x < 257 by omega) (by decide)) ?_
    rw [nI_clamp (by omega), P9.1 x hx]
    refine fx_if_eq 135 dX6_allEnd_42 (by decide) (fun c42 => absurd c42 (bI_n0.mpr hp)) (fun c42 => ?_)
    refine fx_sipush (nI 256) dX6_allEnd_45 (by decide) ?_
    refine fx_iloadn dX6_allEnd_48 rfl ?_
    refine fx_imul dX6_allEnd_49 ?_
    rw [pk_mul]
    refine fx_iload dX6_allEnd_50 rfl ?_
    refine fx_iadd dX6_allEnd_52 ?_
    rw [nI_add]
    refine fx_istore dX6_allEnd_53 (by decide) ?_
    refine fx_aloadn dX6_allEnd_55 rfl ?_
    refine fx_get dX6_allEnd_56 ffX6_21 (by assumption) (by assumption) ?_
    refine fx_iload dX6_allEnd_59 rfl ?_
    refine fx_iald dX6_allEnd_61 t1 (vp_in_nI (show 256 * x + y < 65792 by omega) (by decide)) ?_
    rw [nI_clamp (by omega), P9.2 x y hx hy hp]
    refine fx_if_le 129 dX6_allEnd_62 (by decide) (fun c62 => absurd c62 (by rw [htj, nI_add]; exact fun q => absurd ((nI_le0 (by omega)).mp q) (by omega))) (fun c62 => ?_)
    refine fx_aloadn dX6_allEnd_65 rfl ?_
    refine fx_get dX6_allEnd_66 ffX6_24 (by assumption) (by assumption) ?_
    refine fx_iload dX6_allEnd_69 rfl ?_
    refine fx_iald dX6_allEnd_71 t2 (vp_in_nI (show 256 * x + y < 65792 by omega) (by decide)) ?_
    rw [nI_clamp (by omega), (K9 x y hx hy).2.2.1 ht]
    refine fx_if_ne 129 dX6_allEnd_72 (by decide) (fun c72 => ?_) (fun c72 => absurd c72 (nI_ne0 (by omega) (by omega)))
    refine fx_iinc (nI 1) dX6_allEnd_129 rfl (by decide) (by decide) ?_
    refine fx_goto 28 dX6_allEnd_132 (by decide) ?_
    simp only [nI_add]
    exact fx_to (ih (m - 1) (by omega) h x (y + 1) fp G Pm Qa (by omega) (by omega) (by omega) E K9 hk (fun q => (hI q).k (fun x' y' z => if q9 : x' = x ∧ y' = y then Or.inr (by rw [q9.1, q9.2]; exact hG9) else Or.inl (by unfold rE at z ⊢; omega)) (fun x' y' z => by unfold rE at z ⊢; omega)) hZ0 hZ) ⟨rfl, rfl, rfl, rfl, rfl, trivial⟩
  · have h0 : G x y = 0 := Classical.byContradiction hG9
    refine fx_iload dX6_allEnd_28 rfl ?_
    refine fx_sipush (nI 256) dX6_allEnd_30 (by decide) ?_
    refine fx_icmp_ge 135 dX6_allEnd_33 (by decide) (fun c33 => absurd c33 (nI_ge hy (by decide))) (fun c33 => ?_)
    refine fx_aloadn dX6_allEnd_36 rfl ?_
    refine fx_get dX6_allEnd_37 ffX6_27 (by assumption) (by assumption) ?_
    refine fx_iloadn dX6_allEnd_40 rfl ?_
    refine fx_zald dX6_allEnd_41 t3 (vp_in_nI (show x < 257 by omega) (by decide)) ?_
    rw [nI_clamp (by omega), P9.1 x hx]
    refine fx_if_eq 135 dX6_allEnd_42 (by decide) (fun c42 => absurd c42 (bI_n0.mpr hp)) (fun c42 => ?_)
    refine fx_sipush (nI 256) dX6_allEnd_45 (by decide) ?_
    refine fx_iloadn dX6_allEnd_48 rfl ?_
    refine fx_imul dX6_allEnd_49 ?_
    rw [pk_mul]
    refine fx_iload dX6_allEnd_50 rfl ?_
    refine fx_iadd dX6_allEnd_52 ?_
    rw [nI_add]
    refine fx_istore dX6_allEnd_53 (by decide) ?_
    refine fx_aloadn dX6_allEnd_55 rfl ?_
    refine fx_get dX6_allEnd_56 ffX6_21 (by assumption) (by assumption) ?_
    refine fx_iload dX6_allEnd_59 rfl ?_
    refine fx_iald dX6_allEnd_61 t1 (vp_in_nI (show 256 * x + y < 65792 by omega) (by decide)) ?_
    rw [nI_clamp (by omega), P9.2 x y hx hy hp]
    refine fx_if_le 129 dX6_allEnd_62 (by decide) (fun c62 => absurd c62 (by rw [htj, nI_add]; exact fun q => absurd ((nI_le0 (by omega)).mp q) (by omega))) (fun c62 => ?_)
    refine fx_aloadn dX6_allEnd_65 rfl ?_
    refine fx_get dX6_allEnd_66 ffX6_24 (by assumption) (by assumption) ?_
    refine fx_iload dX6_allEnd_69 rfl ?_
    refine fx_iald dX6_allEnd_71 t2 (vp_in_nI (show 256 * x + y < 65792 by omega) (by decide)) ?_
    rw [nI_clamp (by omega), (K9 x y hx hy).2.2.1 ht]
    refine fx_if_ne 129 dX6_allEnd_72 (by decide) (fun c72 => absurd (by rw [h0]; rfl) c72) (fun c72 => ?_)
    refine fx_aloadn dX6_allEnd_75 rfl ?_
    refine fx_get dX6_allEnd_76 ffX6_24 (by assumption) (by assumption) ?_
    refine fx_iload dX6_allEnd_79 rfl ?_
    refine fx_aloadn dX6_allEnd_81 rfl ?_
    refine fx_iloadn dX6_allEnd_82 rfl ?_
    refine fx_iload dX6_allEnd_83 rfl ?_
    refine fx_callVp dX6_allEnd_85 vX6_looked kkX6_103 rfl rfl (by assumption) (p_rf_looked E P9 K9 D V hl F3 F5 x y hx hy ht) rfl (by decide) (by decide) rfl (Nat.le_of_ble_eq_true rfl) ?_
    refine fx_iastV dX6_allEnd_88 t2 (vp_in_nI (show 256 * x + y < 65792 by omega) (by decide)) (fun h1' e1 o1 => ?_)
    rw [nI_clamp (by omega)] at e1
    have E1 := E.setp N e1 o1
    have k1 := kp.put hk o1 (Or.inl (Or.inr (Or.inl rfl)))
    obtain ⟨F, g1, g8, g9, g10, t1, t2, t3⟩ := id E1
    by_cases hlk : ml_lk b G x y = 0
    · have E2 : ra h1' a pt pp ph ft fp fh := by rw [hlk, K9.same hx hy h0 ht] at E1; exact E1
      by_cases hPm : Pm
      · by_cases hQa : Qa
        · skip
          refine fx_iloadn dX6_allEnd_89 rfl ?_
          refine fx_if_ne 103 dX6_allEnd_90 (by decide) (fun c90 => ?_) (fun c90 => absurd c90 (by rw [bI_t hPm]; decide))
          refine fx_iconst (nI 1) dX6_allEnd_103 (by decide) ?_
          refine fx_goto 108 dX6_allEnd_104 (by decide) ?_
          refine fx_istoren dX6_allEnd_108 (by decide) ?_
          refine fx_iloadn dX6_allEnd_109 rfl ?_
          refine fx_if_eq 127 dX6_allEnd_110 (by decide) (fun c110 => absurd c110 (by rw [bI_t hQa]; decide)) (fun c110 => ?_)
          refine fx_aloadn dX6_allEnd_113 rfl ?_
          refine fx_get dX6_allEnd_114 ffX6_24 (by assumption) (by assumption) ?_
          refine fx_iload dX6_allEnd_117 rfl ?_
          refine fx_iald dX6_allEnd_119 t2 (vp_in_nI (show 256 * x + y < 65792 by omega) (by decide)) ?_
          rw [nI_clamp (by omega), pk_us]
          refine fx_if_le 127 dX6_allEnd_120 (by decide) (fun c120 => ?_) (fun c120 => absurd (by rw [hlk]; decide) c120)
          refine fx_iconst (nI 0) dX6_allEnd_127 (by decide) ?_
          refine fx_istoren dX6_allEnd_128 (by decide) ?_
          refine fx_iinc (nI 1) dX6_allEnd_129 rfl (by decide) (by decide) ?_
          refine fx_goto 28 dX6_allEnd_132 (by decide) ?_
          simp only [nI_add]
          exact fx_to (ih (m - 1) (by omega) h1' x (y + 1) fp G Pm False (by omega) (by omega) (by omega) E2 K9 k1 (fun q => (hI q).u hx hy h0 hlk) hZ0 hZ) ⟨rfl, by rw [bI_t hPm]; rfl, by rw [bI_f (fun q => q)]; rfl, rfl, rfl, trivial⟩
        · skip
          refine fx_iloadn dX6_allEnd_89 rfl ?_
          refine fx_if_ne 103 dX6_allEnd_90 (by decide) (fun c90 => ?_) (fun c90 => absurd c90 (by rw [bI_t hPm]; decide))
          refine fx_iconst (nI 1) dX6_allEnd_103 (by decide) ?_
          refine fx_goto 108 dX6_allEnd_104 (by decide) ?_
          refine fx_istoren dX6_allEnd_108 (by decide) ?_
          refine fx_iloadn dX6_allEnd_109 rfl ?_
          refine fx_if_eq 127 dX6_allEnd_110 (by decide) (fun c110 => ?_) (fun c110 => absurd (bI_0.mpr hQa) c110)
          refine fx_iconst (nI 0) dX6_allEnd_127 (by decide) ?_
          refine fx_istoren dX6_allEnd_128 (by decide) ?_
          refine fx_iinc (nI 1) dX6_allEnd_129 rfl (by decide) (by decide) ?_
          refine fx_goto 28 dX6_allEnd_132 (by decide) ?_
          simp only [nI_add]
          exact fx_to (ih (m - 1) (by omega) h1' x (y + 1) fp G Pm False (by omega) (by omega) (by omega) E2 K9 k1 (fun q => (hI q).u hx hy h0 hlk) hZ0 hZ) ⟨rfl, by rw [bI_t hPm]; rfl, by rw [bI_f (fun q => q)]; rfl, rfl, rfl, trivial⟩
      · by_cases hQa : Qa
        · skip
          refine fx_iloadn dX6_allEnd_89 rfl ?_
          refine fx_if_ne 103 dX6_allEnd_90 (by decide) (fun c90 => absurd (bI_0.mpr hPm) c90) (fun c90 => ?_)
          refine fx_aloadn dX6_allEnd_93 rfl ?_
          refine fx_get dX6_allEnd_94 ffX6_24 (by assumption) (by assumption) ?_
          refine fx_iload dX6_allEnd_97 rfl ?_
          refine fx_iald dX6_allEnd_99 t2 (vp_in_nI (show 256 * x + y < 65792 by omega) (by decide)) ?_
          rw [nI_clamp (by omega), pk_us]
          refine fx_if_le 107 dX6_allEnd_100 (by decide) (fun c100 => ?_) (fun c100 => absurd (by rw [hlk]; decide) c100)
          refine fx_iconst (nI 0) dX6_allEnd_107 (by decide) ?_
          refine fx_istoren dX6_allEnd_108 (by decide) ?_
          refine fx_iloadn dX6_allEnd_109 rfl ?_
          refine fx_if_eq 127 dX6_allEnd_110 (by decide) (fun c110 => absurd c110 (by rw [bI_t hQa]; decide)) (fun c110 => ?_)
          refine fx_aloadn dX6_allEnd_113 rfl ?_
          refine fx_get dX6_allEnd_114 ffX6_24 (by assumption) (by assumption) ?_
          refine fx_iload dX6_allEnd_117 rfl ?_
          refine fx_iald dX6_allEnd_119 t2 (vp_in_nI (show 256 * x + y < 65792 by omega) (by decide)) ?_
          rw [nI_clamp (by omega), pk_us]
          refine fx_if_le 127 dX6_allEnd_120 (by decide) (fun c120 => ?_) (fun c120 => absurd (by rw [hlk]; decide) c120)
          refine fx_iconst (nI 0) dX6_allEnd_127 (by decide) ?_
          refine fx_istoren dX6_allEnd_128 (by decide) ?_
          refine fx_iinc (nI 1) dX6_allEnd_129 rfl (by decide) (by decide) ?_
          refine fx_goto 28 dX6_allEnd_132 (by decide) ?_
          simp only [nI_add]
          exact fx_to (ih (m - 1) (by omega) h1' x (y + 1) fp G Pm False (by omega) (by omega) (by omega) E2 K9 k1 (fun q => (hI q).u hx hy h0 hlk) hZ0 hZ) ⟨rfl, by rw [bI_f hPm]; rfl, by rw [bI_f (fun q => q)]; rfl, rfl, rfl, trivial⟩
        · skip
          refine fx_iloadn dX6_allEnd_89 rfl ?_
          refine fx_if_ne 103 dX6_allEnd_90 (by decide) (fun c90 => absurd (bI_0.mpr hPm) c90) (fun c90 => ?_)
          refine fx_aloadn dX6_allEnd_93 rfl ?_
          refine fx_get dX6_allEnd_94 ffX6_24 (by assumption) (by assumption) ?_
          refine fx_iload dX6_allEnd_97 rfl ?_
          refine fx_iald dX6_allEnd_99 t2 (vp_in_nI (show 256 * x + y < 65792 by omega) (by decide)) ?_
          rw [nI_clamp (by omega), pk_us]
          refine fx_if_le 107 dX6_allEnd_100 (by decide) (fun c100 => ?_) (fun c100 => absurd (by rw [hlk]; decide) c100)
          refine fx_iconst (nI 0) dX6_allEnd_107 (by decide) ?_
          refine fx_istoren dX6_allEnd_108 (by decide) ?_
          refine fx_iloadn dX6_allEnd_109 rfl ?_
          refine fx_if_eq 127 dX6_allEnd_110 (by decide) (fun c110 => ?_) (fun c110 => absurd (bI_0.mpr hQa) c110)
          refine fx_iconst (nI 0) dX6_allEnd_127 (by decide) ?_
          refine fx_istoren dX6_allEnd_128 (by decide) ?_
          refine fx_iinc (nI 1) dX6_allEnd_129 rfl (by decide) (by decide) ?_
          refine fx_goto 28 dX6_allEnd_132 (by decide) ?_
          simp only [nI_add]
          exact fx_to (ih (m - 1) (by omega) h1' x (y + 1) fp G Pm False (by omega) (by omega) (by omega) E2 K9 k1 (fun q => (hI q).u hx hy h0 hlk) hZ0 hZ) ⟨rfl, by rw [bI_f hPm]; rfl, by rw [bI_f (fun q => q)]; rfl, rfl, rfl, trivial⟩
    · have hlk2 := lk_le K9 hx hy
      have hdec : sm zw (upd fp (256 * x + y) (nI (ml_lk b G x y))) 65792 < Z := by
        have q1 := sm_upd zw fp (256 * x + y) (nI (ml_lk b G x y)) 65792 (by omega)
        rw [(K9 x y hx hy).2.2.1 ht, h0] at q1
        have q2 : zw (nI 0) = 1 := rfl
        have q3 : zw (nI (ml_lk b G x y)) = 0 := if_neg (fun e => hlk ((nI_eq0 (by omega)).mp e))
        omega
      by_cases hPm : Pm
      · by_cases hQa : Qa
        · skip
          refine fx_iloadn dX6_allEnd_89 rfl ?_
          refine fx_if_ne 103 dX6_allEnd_90 (by decide) (fun c90 => ?_) (fun c90 => absurd c90 (by rw [bI_t hPm]; decide))
          refine fx_iconst (nI 1) dX6_allEnd_103 (by decide) ?_
          refine fx_goto 108 dX6_allEnd_104 (by decide) ?_
          refine fx_istoren dX6_allEnd_108 (by decide) ?_
          refine fx_iloadn dX6_allEnd_109 rfl ?_
          refine fx_if_eq 127 dX6_allEnd_110 (by decide) (fun c110 => absurd c110 (by rw [bI_t hQa]; decide)) (fun c110 => ?_)
          refine fx_aloadn dX6_allEnd_113 rfl ?_
          refine fx_get dX6_allEnd_114 ffX6_24 (by assumption) (by assumption) ?_
          refine fx_iload dX6_allEnd_117 rfl ?_
          refine fx_iald dX6_allEnd_119 t2 (vp_in_nI (show 256 * x + y < 65792 by omega) (by decide)) ?_
          rw [nI_clamp (by omega), pk_us]
          refine fx_if_le 127 dX6_allEnd_120 (by decide) (fun c120 => absurd c120 (nI_nle (by omega) (by omega))) (fun c120 => ?_)
          refine fx_iconst (nI 1) dX6_allEnd_123 (by decide) ?_
          refine fx_goto 128 dX6_allEnd_124 (by decide) ?_
          refine fx_istoren dX6_allEnd_128 (by decide) ?_
          refine fx_iinc (nI 1) dX6_allEnd_129 rfl (by decide) (by decide) ?_
          refine fx_goto 28 dX6_allEnd_132 (by decide) ?_
          simp only [nI_add]
          exact fx_to (ih (m - 1) (by omega) h1' x (y + 1) _ _ True Qa (by omega) (by omega) (by omega) E1 (K9.put hx hy ht (lk_le K9 hx hy) (lk_an K9 hx hy ht)) k1 (fun q => absurd trivial q) (Nat.le_of_lt hdec) (fun _ => hdec)) ⟨rfl, by rw [bI_t trivial]; rfl, by rw [bI_t hQa]; rfl, rfl, rfl, trivial⟩
        · skip
          refine fx_iloadn dX6_allEnd_89 rfl ?_
          refine fx_if_ne 103 dX6_allEnd_90 (by decide) (fun c90 => ?_) (fun c90 => absurd c90 (by rw [bI_t hPm]; decide))
          refine fx_iconst (nI 1) dX6_allEnd_103 (by decide) ?_
          refine fx_goto 108 dX6_allEnd_104 (by decide) ?_
          refine fx_istoren dX6_allEnd_108 (by decide) ?_
          refine fx_iloadn dX6_allEnd_109 rfl ?_
          refine fx_if_eq 127 dX6_allEnd_110 (by decide) (fun c110 => ?_) (fun c110 => absurd (bI_0.mpr hQa) c110)
          refine fx_iconst (nI 0) dX6_allEnd_127 (by decide) ?_
          refine fx_istoren dX6_allEnd_128 (by decide) ?_
          refine fx_iinc (nI 1) dX6_allEnd_129 rfl (by decide) (by decide) ?_
          refine fx_goto 28 dX6_allEnd_132 (by decide) ?_
          simp only [nI_add]
          exact fx_to (ih (m - 1) (by omega) h1' x (y + 1) _ _ True Qa (by omega) (by omega) (by omega) E1 (K9.put hx hy ht (lk_le K9 hx hy) (lk_an K9 hx hy ht)) k1 (fun q => absurd trivial q) (Nat.le_of_lt hdec) (fun _ => hdec)) ⟨rfl, by rw [bI_t trivial]; rfl, by rw [bI_f hQa]; rfl, rfl, rfl, trivial⟩
      · by_cases hQa : Qa
        · skip
          refine fx_iloadn dX6_allEnd_89 rfl ?_
          refine fx_if_ne 103 dX6_allEnd_90 (by decide) (fun c90 => absurd (bI_0.mpr hPm) c90) (fun c90 => ?_)
          refine fx_aloadn dX6_allEnd_93 rfl ?_
          refine fx_get dX6_allEnd_94 ffX6_24 (by assumption) (by assumption) ?_
          refine fx_iload dX6_allEnd_97 rfl ?_
          refine fx_iald dX6_allEnd_99 t2 (vp_in_nI (show 256 * x + y < 65792 by omega) (by decide)) ?_
          rw [nI_clamp (by omega), pk_us]
          refine fx_if_le 107 dX6_allEnd_100 (by decide) (fun c100 => absurd c100 (nI_nle (by omega) (by omega))) (fun c100 => ?_)
          refine fx_iconst (nI 1) dX6_allEnd_103 (by decide) ?_
          refine fx_goto 108 dX6_allEnd_104 (by decide) ?_
          refine fx_istoren dX6_allEnd_108 (by decide) ?_
          refine fx_iloadn dX6_allEnd_109 rfl ?_
          refine fx_if_eq 127 dX6_allEnd_110 (by decide) (fun c110 => absurd c110 (by rw [bI_t hQa]; decide)) (fun c110 => ?_)
          refine fx_aloadn dX6_allEnd_113 rfl ?_
          refine fx_get dX6_allEnd_114 ffX6_24 (by assumption) (by assumption) ?_
          refine fx_iload dX6_allEnd_117 rfl ?_
          refine fx_iald dX6_allEnd_119 t2 (vp_in_nI (show 256 * x + y < 65792 by omega) (by decide)) ?_
          rw [nI_clamp (by omega), pk_us]
          refine fx_if_le 127 dX6_allEnd_120 (by decide) (fun c120 => absurd c120 (nI_nle (by omega) (by omega))) (fun c120 => ?_)
          refine fx_iconst (nI 1) dX6_allEnd_123 (by decide) ?_
          refine fx_goto 128 dX6_allEnd_124 (by decide) ?_
          refine fx_istoren dX6_allEnd_128 (by decide) ?_
          refine fx_iinc (nI 1) dX6_allEnd_129 rfl (by decide) (by decide) ?_
          refine fx_goto 28 dX6_allEnd_132 (by decide) ?_
          simp only [nI_add]
          exact fx_to (ih (m - 1) (by omega) h1' x (y + 1) _ _ True Qa (by omega) (by omega) (by omega) E1 (K9.put hx hy ht (lk_le K9 hx hy) (lk_an K9 hx hy ht)) k1 (fun q => absurd trivial q) (Nat.le_of_lt hdec) (fun _ => hdec)) ⟨rfl, by rw [bI_t trivial]; rfl, by rw [bI_t hQa]; rfl, rfl, rfl, trivial⟩
        · skip
          refine fx_iloadn dX6_allEnd_89 rfl ?_
          refine fx_if_ne 103 dX6_allEnd_90 (by decide) (fun c90 => absurd (bI_0.mpr hPm) c90) (fun c90 => ?_)
          refine fx_aloadn dX6_allEnd_93 rfl ?_
          refine fx_get dX6_allEnd_94 ffX6_24 (by assumption) (by assumption) ?_
          refine fx_iload dX6_allEnd_97 rfl ?_
          refine fx_iald dX6_allEnd_99 t2 (vp_in_nI (show 256 * x + y < 65792 by omega) (by decide)) ?_
          rw [nI_clamp (by omega), pk_us]
          refine fx_if_le 107 dX6_allEnd_100 (by decide) (fun c100 => absurd c100 (nI_nle (by omega) (by omega))) (fun c100 => ?_)
          refine fx_iconst (nI 1) dX6_allEnd_103 (by decide) ?_
          refine fx_goto 108 dX6_allEnd_104 (by decide) ?_
          refine fx_istoren dX6_allEnd_108 (by decide) ?_
          refine fx_iloadn dX6_allEnd_109 rfl ?_
          refine fx_if_eq 127 dX6_allEnd_110 (by decide) (fun c110 => ?_) (fun c110 => absurd (bI_0.mpr hQa) c110)
          refine fx_iconst (nI 0) dX6_allEnd_127 (by decide) ?_
          refine fx_istoren dX6_allEnd_128 (by decide) ?_
          refine fx_iinc (nI 1) dX6_allEnd_129 rfl (by decide) (by decide) ?_
          refine fx_goto 28 dX6_allEnd_132 (by decide) ?_
          simp only [nI_add]
          exact fx_to (ih (m - 1) (by omega) h1' x (y + 1) _ _ True Qa (by omega) (by omega) (by omega) E1 (K9.put hx hy ht (lk_le K9 hx hy) (lk_an K9 hx hy ht)) k1 (fun q => absurd trivial q) (Nat.le_of_lt hdec) (fun _ => hdec)) ⟨rfl, by rw [bI_t trivial]; rfl, by rw [bI_f hQa]; rfl, rfl, rfl, trivial⟩
theorem l_rf_alls {g : fx_G} {h0 : fx_H} {a pt pp ph lim nw cu su : Nat} {b : Nat → Nat} (V : ml_v b nw) (hl : 4 * nw ≤ lim) (F3 : ml_F3a b) (F5 : ml_f5 b) (N : pt ≠ pp) (HR : ∀ h', kp (rS pt pp ph) h0 h' → rd h' a b lim) (ft fh : Nat → Int32) (P9 : rP b ft fh) : ∀ (n : Nat) (h : fx_H) (fp : Nat → Int32) (G : Nat → Nat → Nat) (Pm Qa : Prop), ra h a pt pp ph ft fp fh → rK b fp G → kp (rS pt pp ph) h0 h → (¬ Pm → rI b G 257 0 Qa) → (Pm → sm zw fp 65792 < n) → fx_Y g mX6_allEnd 9 199 (fun r h' => r = some (.int (bI (ml_f7 b))) ∧ ∃ ft fp fh, ra h' a pt pp ph ft fp fh ∧ kp (rS pt pp ph) h0 h') (fun _ _ => False) 8 [(0, .ref a), (1, .int (bI Pm)), (2, .int (bI Qa))] [] h cu su := by
  intro n
  induction n using Nat.strongRecOn with
  | ind n ih =>
  intro h fp G Pm Qa E K9 hk hI hn
  obtain ⟨F, g1, g8, g9, g10, t1, t2, t3⟩ := id E
  by_cases hPm : Pm
  · skip
    refine fx_iloadn dX6_allEnd_8 rfl ?_
    refine fx_if_eq 144 dX6_allEnd_9 (by decide) (fun c9 => absurd c9 (by rw [bI_t hPm]; decide)) (fun c9 => ?_)
    refine fx_iconst (nI 0) dX6_allEnd_12 (by decide) ?_
    refine fx_istoren dX6_allEnd_13 (by decide) ?_
    refine fx_iconst (nI 1) dX6_allEnd_14 (by decide) ?_
    refine fx_istoren dX6_allEnd_15 (by decide) ?_
    refine fx_iconst (nI 0) dX6_allEnd_16 (by decide) ?_
    refine fx_istoren dX6_allEnd_17 (by decide) ?_
    refine fx_iloadn dX6_allEnd_18 rfl ?_
    refine fx_sipush (nI 256) dX6_allEnd_19 (by decide) ?_
    refine fx_icmp_gt 141 dX6_allEnd_22 (by decide) (fun c22 => absurd c22 (by decide)) (fun c22 => ?_)
    refine fx_iconst (nI 0) dX6_allEnd_25 (by decide) ?_
    refine fx_istore dX6_allEnd_26 (by decide) ?_
    exact fx_to (l_rf_pass V hl F3 F5 N HR ft fh P9 (sm zw fp 65792) _ (fun h2 fp2 G2 Pm2 Qa2 lv2 hlv E2 K2 hk2 hI2 hZ2 => fx_to (ih (sm zw fp 65792) (hn hPm) h2 fp2 G2 Pm2 Qa2 E2 K2 hk2 hI2 hZ2) hlv) (257 * 257) h 0 0 fp G False True (by omega) (by omega) (by omega) E K9 hk (fun _ => rI.z) (Nat.le_refl _) (fun q => q.elim)) ⟨rfl, by rw [bI_f (fun q => q)]; rfl, by rw [bI_t trivial]; rfl, rfl, rfl, trivial⟩
  · skip
    refine fx_iloadn dX6_allEnd_8 rfl ?_
    refine fx_if_eq 144 dX6_allEnd_9 (by decide) (fun c9 => ?_) (fun c9 => absurd (bI_0.mpr hPm) c9)
    refine fx_iloadn dX6_allEnd_144 rfl ?_
    refine fx_zret dX6_allEnd_145 rfl (bI_nar _) ?_
    refine ⟨congrArg (fun x => some (Value.int x)) (bI_c ?_), ft, fp, fh, E, hk⟩
    have hI2 := hI hPm
    have hst := lk_stuck K9 (fun x y hx hy ht h0 => hI2.1 x y ⟨hx, hy, Or.inl (by omega)⟩ ht h0)
    refine hI2.2.trans ⟨fun q x y hx hy => ?_, fun q x y z => ?_⟩
    · have q2 := q x y ⟨hx, hy, Or.inl (by omega)⟩
      obtain ⟨n, hn2⟩ := (K9 x y hx hy).2.2.2 q2
      exact ⟨n, by rw [hn2]; exact q2⟩
    · obtain ⟨n, hn2⟩ := q x y z.1 z.2.1
      exact hst n x y z.1 z.2.1 hn2
theorem c_rf_allEnd {g : fx_G} {h : fx_H} {a pt pp ph lim nw : Nat} {b : Nat → Nat} (V : ml_v b nw) (hl : 4 * nw ≤ lim) (F3 : ml_F3a b) (F5 : ml_f5 b) (N : pt ≠ pp) (HR : ∀ h', kp (rS pt pp ph) h h' → rd h' a b lim) {ft fp fh : Nat → Int32} (E : ra h a pt pp ph ft fp fh) : fx_Met g mX6_allEnd 9 199 [.ref a] h 0 0 (fun r h' => r = some (.int (bI (ml_f7 b))) ∧ ∃ ft fp fh, ra h' a pt pp ph ft fp fh ∧ kp (rS pt pp ph) h h') := by
  obtain ⟨F, g1, g8, g9, g10, t1, t2, t3⟩ := id E
  refine fx_Met.of rfl (Nat.le_of_ble_eq_true rfl) ?_
  refine fx_aloadn dX6_allEnd_0 rfl ?_
  refine fx_callV dX6_allEnd_1 vX6_programs kkX6_100 rfl rfl g1 (c_rf_programs V hl F3 F5 N HR E) rfl (by decide) (by decide) (Nat.zero_le _) (Nat.zero_le _) rfl (Nat.le_of_ble_eq_true rfl) (fun r h2 hk2 => ?_)
  obtain ⟨rfl, ft2, fp2, fh2, E2, P2, hz2, hk3⟩ := hk2
  refine fx_iconst (nI 1) dX6_allEnd_4 (by decide) ?_
  refine fx_istoren dX6_allEnd_5 (by decide) ?_
  refine fx_iconst (nI 1) dX6_allEnd_6 (by decide) ?_
  refine fx_istoren dX6_allEnd_7 (by decide) ?_
  refine fx_to (l_rf_alls V hl F3 F5 N HR ft2 fh2 P2 _ h2 fp2 (fun x y => if ml_tt b x y = -1 then y + 1 else 0) True True E2 (fun x y hx hy => ?_) hk3 (fun q => absurd trivial q) (fun _ => Nat.lt_succ_self _)) ⟨rfl, by rw [bI_t trivial]; rfl, by rw [bI_t trivial]; rfl, trivial⟩
  by_cases ht : ml_tt b x y = -1
  · simp only [if_pos ht]
    exact ⟨by omega, fun _ => by trivial, fun z => absurd ht z, fun _ => ⟨0, an_t ht 0⟩⟩
  · simp only [if_neg ht]
    exact ⟨by omega, fun z => absurd z ht, fun _ => hz2 x y hx hy (fun z => ht (tt_nops z)), fun z => absurd rfl z⟩
