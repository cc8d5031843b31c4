/-! FontDesk$Setting -/
def se (h : fx_H) (a pik pic pak pac : Nat) (fk fc : Nat → Int32) (it : Nat) (tot : Int64) (nk nc : Int32) (gk gc : Nat → Int32) (ah pr : Nat) : Prop := h a = some (.inr (3, [.ref pik, .ref pic, .int (nI it), .long tot, .int nk, .int nc, .ref pak, .ref pac, .int (nI ah), .int (nI pr)])) ∧ h pik = some (.inl (0, 1000, .inl fk)) ∧ h pic = some (.inl (0, 1000, .inl fc)) ∧ h pak = some (.inl (0, 1000, .inl gk)) ∧ h pac = some (.inl (0, 1000, .inl gc)) ∧ ((pik ≠ pic ∧ pik ≠ pak ∧ pik ≠ pac) ∧ (pic ≠ pak ∧ pic ≠ pac) ∧ pak ≠ pac)
def sS (a pik pic pak pac : Nat) : Nat → Prop := fun x => x = a ∨ x = pik ∨ x = pic ∨ x = pak ∨ x = pac
theorem se.obj {h h' : fx_H} {a pik pic pak pac it ah pr it' ah' pr' : Nat} {fk fc gk gc : Nat → Int32} {tot tot' : Int64} {nk nc nk' nc' : Int32} (E : se h a pik pic pak pac fk fc it tot nk nc gk gc ah pr) (q : h' a = some (.inr (3, [.ref pik, .ref pic, .int (nI it'), .long tot', .int nk', .int nc', .ref pak, .ref pac, .int (nI ah'), .int (nI pr')]))) (o : ∀ x, x ≠ a → h' x = h x) : se h' a pik pic pak pac fk fc it' tot' nk' nc' gk gc ah' pr' := by
  obtain ⟨e1, e2, e3, e4, e5, e6⟩ := E
  exact ⟨q, (o _ (Ne.symm (ne_oa e1 e2))).trans e2, (o _ (Ne.symm (ne_oa e1 e3))).trans e3, (o _ (Ne.symm (ne_oa e1 e4))).trans e4, (o _ (Ne.symm (ne_oa e1 e5))).trans e5, e6⟩

theorem se.ik {h h' : fx_H} {a pik pic pak pac it ah pr : Nat} {fk fc gk gc f' : Nat → Int32} {tot : Int64} {nk nc : Int32} (E : se h a pik pic pak pac fk fc it tot nk nc gk gc ah pr) (q : h' pik = some (.inl (0, 1000, .inl f'))) (o : ∀ x, x ≠ pik → h' x = h x) : se h' a pik pic pak pac f' fc it tot nk nc gk gc ah pr := by
  obtain ⟨e1, e2, e3, e4, e5, e6⟩ := E
  exact ⟨(o _ (ne_oa e1 e2)).trans e1, q, (o _ (Ne.symm e6.1.1)).trans e3, (o _ (Ne.symm e6.1.2.1)).trans e4, (o _ (Ne.symm e6.1.2.2)).trans e5, e6⟩
theorem se.ic {h h' : fx_H} {a pik pic pak pac it ah pr : Nat} {fk fc gk gc f' : Nat → Int32} {tot : Int64} {nk nc : Int32} (E : se h a pik pic pak pac fk fc it tot nk nc gk gc ah pr) (q : h' pic = some (.inl (0, 1000, .inl f'))) (o : ∀ x, x ≠ pic → h' x = h x) : se h' a pik pic pak pac fk f' it tot nk nc gk gc ah pr := by
  obtain ⟨e1, e2, e3, e4, e5, e6⟩ := E
  exact ⟨(o _ (ne_oa e1 e3)).trans e1, (o _ e6.1.1).trans e2, q, (o _ (Ne.symm e6.2.1.1)).trans e4, (o _ (Ne.symm e6.2.1.2)).trans e5, e6⟩
theorem se.ak {h h' : fx_H} {a pik pic pak pac it ah pr : Nat} {fk fc gk gc f' : Nat → Int32} {tot : Int64} {nk nc : Int32} (E : se h a pik pic pak pac fk fc it tot nk nc gk gc ah pr) (q : h' pak = some (.inl (0, 1000, .inl f'))) (o : ∀ x, x ≠ pak → h' x = h x) : se h' a pik pic pak pac fk fc it tot nk nc f' gc ah pr := by
  obtain ⟨e1, e2, e3, e4, e5, e6⟩ := E
  exact ⟨(o _ (ne_oa e1 e4)).trans e1, (o _ e6.1.2.1).trans e2, (o _ e6.2.1.1).trans e3, q, (o _ (Ne.symm e6.2.2)).trans e5, e6⟩
theorem se.ac {h h' : fx_H} {a pik pic pak pac it ah pr : Nat} {fk fc gk gc f' : Nat → Int32} {tot : Int64} {nk nc : Int32} (E : se h a pik pic pak pac fk fc it tot nk nc gk gc ah pr) (q : h' pac = some (.inl (0, 1000, .inl f'))) (o : ∀ x, x ≠ pac → h' x = h x) : se h' a pik pic pak pac fk fc it tot nk nc gk f' ah pr := by
  obtain ⟨e1, e2, e3, e4, e5, e6⟩ := E
  exact ⟨(o _ (ne_oa e1 e5)).trans e1, (o _ e6.1.2.2).trans e2, (o _ e6.2.1.2).trans e3, (o _ e6.2.2).trans e4, q, e6⟩
/-- items, width, the sign that it stands behind, what is ahead, how many there are -/
def sw (h : fx_H) (a pik pic pak pac : Nat) (I : List sg) (tot : Int64) (x : sg) (A : List sg) (pr : Nat) : Prop := ∃ fk fc gk gc : Nat → Int32, se h a pik pic pak pac fk fc I.length tot (nI x.1) x.2 gk gc A.length pr ∧ sl I fk fc ∧ sl A.reverse gk gc
theorem sw.at {h : fx_H} {a pik pic pak pac pr : Nat} {I A : List sg} {x : sg} {tot : Int64} (E : sw h a pik pic pak pac I tot x A pr) : ∃ fs : List Value, h a = some (.inr (3, fs)) := by
  obtain ⟨fk, fc, gk, gc, e, -⟩ := E
  exact ⟨_, e.1⟩
theorem sw.kept {h h' : fx_H} {a pik pic pak pac pr : Nat} {I A : List sg} {x : sg} {tot : Int64} (E : sw h a pik pic pak pac I tot x A pr) (k : ∀ q, sS a pik pic pak pac q → h' q = h q) : sw h' a pik pic pak pac I tot x A pr := by
  obtain ⟨fk, fc, gk, gc, ⟨e1, e2, e3, e4, e5, e6⟩, h1⟩ := E
  exact ⟨fk, fc, gk, gc, ⟨(k _ (by simp [sS])).trans e1, (k _ (by simp [sS])).trans e2, (k _ (by simp [sS])).trans e3, (k _ (by simp [sS])).trans e4, (k _ (by simp [sS])).trans e5, e6⟩, h1⟩

theorem c_se_push {g : fx_G} {h : fx_H} {a pik pic pak pac pr : Nat} {I A : List sg} {x : sg} {tot : Int64} (E : sw h a pik pic pak pac I tot x A pr) (s : sg) (hlt : A.length < 1000) : fx_Met g mX4_push 0 0 [.ref a, .int (nI s.1), .int s.2] h 0 0 (fun r h' => r = none ∧ sw h' a pik pic pak pac I tot x (s :: A) pr ∧ kp (sS a pik pic pak pac) h h') := by
  obtain ⟨fk, fc, gk, gc, e, hI, hA⟩ := E
  obtain ⟨e1, e2, e3, e4, e5, e6⟩ := id e
  refine fx_Met.of rfl (Nat.le_of_ble_eq_true rfl) ?_
  refine fx_aloadn dX4_push_0 rfl ?_
  refine fx_get dX4_push_1 ffX4_40 (by assumption) rfl ?_
  refine fx_if_lt 47 dX4_push_4 (by decide) (fun c4 => absurd c4 (nI_pos (by omega))) (fun c4 => ?_)
  refine fx_aloadn dX4_push_7 rfl ?_
  refine fx_get dX4_push_8 ffX4_40 (by assumption) rfl ?_
  refine fx_sipush (nI 1000) dX4_push_11 (by decide) ?_
  refine fx_icmp_ge 47 dX4_push_14 (by decide) (fun c14 => absurd c14 (nI_ge hlt (by decide))) (fun c14 => ?_)
  refine fx_aloadn dX4_push_17 rfl ?_
  refine fx_get dX4_push_18 ffX4_34 (by assumption) rfl ?_
  refine fx_aloadn dX4_push_21 rfl ?_
  refine fx_get dX4_push_22 ffX4_40 (by assumption) rfl ?_
  refine fx_iloadn dX4_push_25 rfl ?_
  refine fx_iastV dX4_push_26 e4 (vp_in_nI hlt (by decide)) (fun h1 q1 o1 => ?_)
  rw [nI_clamp (by omega)] at q1
  have E1 := e.ak q1 o1
  have k1 := kp.put (kp.rf (S := sS a pik pic pak pac)) o1 (Or.inl (Or.inr (Or.inr (Or.inr (Or.inl rfl)))))
  obtain ⟨e1, e2, e3, e4, e5, e6⟩ := id E1
  refine fx_aloadn dX4_push_27 rfl ?_
  refine fx_get dX4_push_28 ffX4_37 (by assumption) rfl ?_
  refine fx_aloadn dX4_push_31 rfl ?_
  refine fx_get dX4_push_32 ffX4_40 (by assumption) rfl ?_
  refine fx_iloadn dX4_push_35 rfl ?_
  refine fx_iastV dX4_push_36 e5 (vp_in_nI hlt (by decide)) (fun h2 q2 o2 => ?_)
  rw [nI_clamp (by omega)] at q2
  have E2 := E1.ac q2 o2
  have k2 := kp.put k1 o2 (Or.inl (Or.inr (Or.inr (Or.inr (Or.inr rfl)))))
  obtain ⟨e1, e2, e3, e4, e5, e6⟩ := id E2
  refine fx_aloadn dX4_push_37 rfl ?_
  refine fx_dup dX4_push_38 rfl ?_
  refine fx_get dX4_push_39 ffX4_40 (by assumption) rfl ?_
  refine fx_iconst (nI 1) dX4_push_42 (by decide) ?_
  refine fx_iadd dX4_push_43 ?_
  rw [nI_add]
  refine fx_putV dX4_push_44 ffX4_40 e1 rfl rfl (Nat.le_of_ble_eq_true rfl) (fun h3 q3 o3 => ?_)
  have k3 := kp.put k2 o3 (Or.inl (Or.inl rfl))
  refine fx_vret dX4_push_47 rfl ?_
  refine ⟨rfl, ⟨fk, fc, _, _, E2.obj (ah' := (s :: A).length) q3 o3, hI, ?_⟩, k3⟩
  have h9 := hA.push s
  rw [List.length_reverse] at h9
  rw [List.reverse_cons]
  exact h9
theorem c_se_addItem {g : fx_G} {h : fx_H} {a pik pic pak pac pr : Nat} {I A : List sg} {x : sg} {tot : Int64} (E : sw h a pik pic pak pac I tot x A pr) (s : sg) (hlt : I.length < 1000) : fx_Met g mX4_addItem 0 0 [.ref a, .int (nI s.1), .int s.2] h 0 0 (fun r h' => r = none ∧ sw h' a pik pic pak pac (I ++ [s]) tot x A pr ∧ kp (sS a pik pic pak pac) h h') := by
  obtain ⟨fk, fc, gk, gc, e, hI, hA⟩ := E
  obtain ⟨e1, e2, e3, e4, e5, e6⟩ := id e
  refine fx_Met.of rfl (Nat.le_of_ble_eq_true rfl) ?_
  refine fx_aloadn dX4_addItem_0 rfl ?_
  refine fx_get dX4_addItem_1 ffX4_18 (by assumption) rfl ?_
  refine fx_if_lt 47 dX4_addItem_4 (by decide) (fun c4 => absurd c4 (nI_pos (by omega))) (fun c4 => ?_)
  refine fx_aloadn dX4_addItem_7 rfl ?_
  refine fx_get dX4_addItem_8 ffX4_18 (by assumption) rfl ?_
  refine fx_sipush (nI 1000) dX4_addItem_11 (by decide) ?_
  refine fx_icmp_ge 47 dX4_addItem_14 (by decide) (fun c14 => absurd c14 (nI_ge hlt (by decide))) (fun c14 => ?_)
  refine fx_aloadn dX4_addItem_17 rfl ?_
  refine fx_get dX4_addItem_18 ffX4_11 (by assumption) rfl ?_
  refine fx_aloadn dX4_addItem_21 rfl ?_
  refine fx_get dX4_addItem_22 ffX4_18 (by assumption) rfl ?_
  refine fx_iloadn dX4_addItem_25 rfl ?_
  refine fx_iastV dX4_addItem_26 e2 (vp_in_nI hlt (by decide)) (fun h1 q1 o1 => ?_)
  rw [nI_clamp (by omega)] at q1
  have E1 := e.ik q1 o1
  have k1 := kp.put (kp.rf (S := sS a pik pic pak pac)) o1 (Or.inl (Or.inr (Or.inl rfl)))
  obtain ⟨e1, e2, e3, e4, e5, e6⟩ := id E1
  refine fx_aloadn dX4_addItem_27 rfl ?_
  refine fx_get dX4_addItem_28 ffX4_15 (by assumption) rfl ?_
  refine fx_aloadn dX4_addItem_31 rfl ?_
  refine fx_get dX4_addItem_32 ffX4_18 (by assumption) rfl ?_
  refine fx_iloadn dX4_addItem_35 rfl ?_
  refine fx_iastV dX4_addItem_36 e3 (vp_in_nI hlt (by decide)) (fun h2 q2 o2 => ?_)
  rw [nI_clamp (by omega)] at q2
  have E2 := E1.ic q2 o2
  have k2 := kp.put k1 o2 (Or.inl (Or.inr (Or.inr (Or.inl rfl))))
  obtain ⟨e1, e2, e3, e4, e5, e6⟩ := id E2
  refine fx_aloadn dX4_addItem_37 rfl ?_
  refine fx_dup dX4_addItem_38 rfl ?_
  refine fx_get dX4_addItem_39 ffX4_18 (by assumption) rfl ?_
  refine fx_iconst (nI 1) dX4_addItem_42 (by decide) ?_
  refine fx_iadd dX4_addItem_43 ?_
  rw [nI_add]
  refine fx_putV dX4_addItem_44 ffX4_18 e1 rfl rfl (Nat.le_of_ble_eq_true rfl) (fun h3 q3 o3 => ?_)
  have k3 := kp.put k2 o3 (Or.inl (Or.inl rfl))
  refine fx_vret dX4_addItem_47 rfl ?_
  refine ⟨rfl, ⟨_, _, gk, gc, E2.obj (it' := (I ++ [s]).length) (by rw [List.length_append]; exact q3) o3, hI.push s, hA⟩, k3⟩
theorem c_se_pop {g : fx_G} {h : fx_H} {a pik pic pak pac pr : Nat} {I A : List sg} {x : sg} {tot : Int64} {y : sg} (E : sw h a pik pic pak pac I tot x (y :: A) pr) (hlt : (y :: A).length ≤ 1000) : fx_Met g mX4_pop 0 0 [.ref a] h 0 0 (fun r h' => r = none ∧ sw h' a pik pic pak pac I tot y A pr ∧ kp (sS a pik pic pak pac) h h') := by
  have hlt2 : A.length < 1000 := hlt
  have hlen : (y :: A).length = A.length + 1 := rfl
  obtain ⟨fk, fc, gk, gc, e, hI, hA⟩ := E
  obtain ⟨e1, e2, e3, e4, e5, e6⟩ := id e
  rw [List.reverse_cons] at hA
  obtain ⟨hp0, hp1, hp2⟩ := hA.pop
  rw [List.length_reverse] at hp1 hp2
  refine fx_Met.of rfl (Nat.le_of_ble_eq_true rfl) ?_
  refine fx_aloadn dX4_pop_0 rfl ?_
  refine fx_get dX4_pop_1 ffX4_40 (by assumption) rfl ?_
  refine fx_if_le 53 dX4_pop_4 (by decide) (fun c4 => absurd c4 (nI_nle (by omega) (by omega))) (fun c4 => ?_)
  refine fx_aloadn dX4_pop_7 rfl ?_
  refine fx_get dX4_pop_8 ffX4_40 (by assumption) rfl ?_
  refine fx_sipush (nI 1000) dX4_pop_11 (by decide) ?_
  refine fx_icmp_gt 53 dX4_pop_14 (by decide) (fun c14 => absurd c14 (nI_nlt hlt (by decide))) (fun c14 => ?_)
  refine fx_aloadn dX4_pop_17 rfl ?_
  refine fx_dup dX4_pop_18 rfl ?_
  refine fx_get dX4_pop_19 ffX4_40 (by assumption) rfl ?_
  refine fx_iconst (nI 1) dX4_pop_22 (by decide) ?_
  refine fx_isub dX4_pop_23 ?_
  rw [pk_sub (by omega)]
  refine fx_putV dX4_pop_24 ffX4_40 e1 rfl rfl (Nat.le_of_ble_eq_true rfl) (fun h1 q1 o1 => ?_)
  have E1 : se h1 a pik pic pak pac fk fc I.length tot (nI x.1) x.2 gk gc A.length pr := e.obj q1 o1
  have k1 := kp.put (kp.rf (S := sS a pik pic pak pac)) o1 (Or.inl (Or.inl rfl))
  obtain ⟨e1, e2, e3, e4, e5, e6⟩ := id E1
  refine fx_aloadn dX4_pop_27 rfl ?_
  refine fx_aloadn dX4_pop_28 rfl ?_
  refine fx_get dX4_pop_29 ffX4_34 (by assumption) rfl ?_
  refine fx_aloadn dX4_pop_32 rfl ?_
  refine fx_get dX4_pop_33 ffX4_40 (by assumption) rfl ?_
  refine fx_iald dX4_pop_36 e4 (vp_in_nI hlt2 (by decide)) ?_
  rw [nI_clamp (by omega), hp1]
  refine fx_putV dX4_pop_37 ffX4_26 e1 rfl rfl (Nat.le_of_ble_eq_true rfl) (fun h2 q2 o2 => ?_)
  have E2 : se h2 a pik pic pak pac fk fc I.length tot (nI y.1) x.2 gk gc A.length pr := E1.obj q2 o2
  have k2 := kp.put k1 o2 (Or.inl (Or.inl rfl))
  obtain ⟨e1, e2, e3, e4, e5, e6⟩ := id E2
  refine fx_aloadn dX4_pop_40 rfl ?_
  refine fx_aloadn dX4_pop_41 rfl ?_
  refine fx_get dX4_pop_42 ffX4_37 (by assumption) rfl ?_
  refine fx_aloadn dX4_pop_45 rfl ?_
  refine fx_get dX4_pop_46 ffX4_40 (by assumption) rfl ?_
  refine fx_iald dX4_pop_49 e5 (vp_in_nI hlt2 (by decide)) ?_
  rw [nI_clamp (by omega), hp2]
  refine fx_putV dX4_pop_50 ffX4_31 e1 rfl rfl (Nat.le_of_ble_eq_true rfl) (fun h3 q3 o3 => ?_)
  have E3 : se h3 a pik pic pak pac fk fc I.length tot (nI y.1) y.2 gk gc A.length pr := E2.obj q3 o3
  have k3 := kp.put k2 o3 (Or.inl (Or.inl rfl))
  refine fx_vret dX4_pop_53 rfl ?_
  exact ⟨rfl, ⟨fk, fc, gk, gc, E3, hI, hp0⟩, k3⟩
theorem c_se_become {g : fx_G} {h : fx_H} {a pik pic pak pac pr : Nat} {I A : List sg} {x : sg} {tot : Int64} (E : sw h a pik pic pak pac I tot x A pr) (r : Int32) : fx_Met g mX4_becomeLigature 0 0 [.ref a, .int r] h 0 0 (fun q h' => q = none ∧ sw h' a pik pic pak pac I tot ((1, r) : sg) A pr ∧ kp (sS a pik pic pak pac) h h') := by
  obtain ⟨fk, fc, gk, gc, e, hI, hA⟩ := E
  obtain ⟨e1, e2, e3, e4, e5, e6⟩ := id e
  refine fx_Met.of rfl (Nat.le_of_ble_eq_true rfl) ?_
  refine fx_aloadn dX4_becomeLigature_0 rfl ?_
  refine fx_iconst (nI 1) dX4_becomeLigature_1 (by decide) ?_
  refine fx_putV dX4_becomeLigature_2 ffX4_26 e1 rfl rfl (Nat.le_of_ble_eq_true rfl) (fun h1 q1 o1 => ?_)
  have E1 : se h1 a pik pic pak pac fk fc I.length tot (nI 1) x.2 gk gc A.length pr := e.obj q1 o1
  have k1 := kp.put (kp.rf (S := sS a pik pic pak pac)) o1 (Or.inl (Or.inl rfl))
  obtain ⟨e1, e2, e3, e4, e5, e6⟩ := id E1
  refine fx_aloadn dX4_becomeLigature_5 rfl ?_
  refine fx_iloadn dX4_becomeLigature_6 rfl ?_
  refine fx_putV dX4_becomeLigature_7 ffX4_31 e1 rfl rfl (Nat.le_of_ble_eq_true rfl) (fun h2 q2 o2 => ?_)
  have k2 := kp.put k1 o2 (Or.inl (Or.inl rfl))
  refine fx_vret dX4_becomeLigature_10 rfl ?_
  exact ⟨rfl, ⟨fk, fc, gk, gc, E1.obj q2 o2, hI, hA⟩, k2⟩
theorem c_se_forget {g : fx_G} {h : fx_H} {a pik pic pak pac pr : Nat} {I A : List sg} {x : sg} {tot : Int64} (E : sw h a pik pic pak pac I tot x A pr) : fx_Met g mX4_forget 0 0 [.ref a] h 0 0 (fun q h' => q = none ∧ sw h' a pik pic pak pac [] 0 x A pr ∧ kp (sS a pik pic pak pac) h h') := by
  obtain ⟨fk, fc, gk, gc, e, hI, hA⟩ := E
  obtain ⟨e1, e2, e3, e4, e5, e6⟩ := id e
  refine fx_Met.of rfl (Nat.le_of_ble_eq_true rfl) ?_
  refine fx_aloadn dX4_forget_0 rfl ?_
  refine fx_iconst (nI 0) dX4_forget_1 (by decide) ?_
  refine fx_putV dX4_forget_2 ffX4_18 e1 rfl rfl (Nat.le_of_ble_eq_true rfl) (fun h1 q1 o1 => ?_)
  have E1 : se h1 a pik pic pak pac fk fc ([] : List sg).length tot (nI x.1) x.2 gk gc A.length pr := e.obj q1 o1
  have k1 := kp.put (kp.rf (S := sS a pik pic pak pac)) o1 (Or.inl (Or.inl rfl))
  obtain ⟨e1, e2, e3, e4, e5, e6⟩ := id E1
  refine fx_aloadn dX4_forget_5 rfl ?_
  refine fx_lconst 0 dX4_forget_6 (by decide) ?_
  refine fx_putV dX4_forget_7 ffX4_22 e1 rfl rfl (Nat.le_of_ble_eq_true rfl) (fun h2 q2 o2 => ?_)
  have k2 := kp.put k1 o2 (Or.inl (Or.inl rfl))
  refine fx_vret dX4_forget_10 rfl ?_
  exact ⟨rfl, ⟨fk, fc, gk, gc, E1.obj q2 o2, sl.nil, hA⟩, k2⟩
theorem c_se_passSign {g : fx_G} {h : fx_H} {a pik pic pak pac pr : Nat} {I A : List sg} {x : sg} {tot : Int64} (E : sw h a pik pic pak pac I tot x A pr) (hx : x.1 < 4) (hlt : I.length < 1000) : fx_Met g mX4_passSign 1 22 [.ref a] h 0 0 (fun r h' => r = none ∧ sw h' a pik pic pak pac (I ++ nf [x]) tot x A pr ∧ kp (sS a pik pic pak pac) h h') := by
  obtain ⟨fk, fc, gk, gc, e, hI, hA⟩ := E
  obtain ⟨e1, e2, e3, e4, e5, e6⟩ := id e
  refine fx_Met.of rfl (Nat.le_of_ble_eq_true rfl) ?_
  by_cases hx3 : x.1 = 3
  · skip
    refine fx_aloadn dX4_passSign_0 rfl ?_
    refine fx_get dX4_passSign_1 ffX4_26 (by assumption) rfl ?_
    refine fx_iconst (nI 3) dX4_passSign_4 (by decide) ?_
    refine fx_icmp_eq 20 dX4_passSign_5 (by decide) (fun c5 => ?_) (fun c5 => absurd (by rw [hx3]) c5)
    refine fx_vret dX4_passSign_20 rfl ?_
    rw [nf_0 hx3, List.append_nil]
    exact ⟨rfl, ⟨fk, fc, gk, gc, e, hI, hA⟩, kp.rf⟩
  · skip
    refine fx_aloadn dX4_passSign_0 rfl ?_
    refine fx_get dX4_passSign_1 ffX4_26 (by assumption) rfl ?_
    refine fx_iconst (nI 3) dX4_passSign_4 (by decide) ?_
    refine fx_icmp_eq 20 dX4_passSign_5 (by decide) (fun c5 => absurd c5 (fun q => hx3 ((nI_eq (by omega) (by decide)).mp q))) (fun c5 => ?_)
    refine fx_aloadn dX4_passSign_8 rfl ?_
    refine fx_aloadn dX4_passSign_9 rfl ?_
    refine fx_get dX4_passSign_10 ffX4_26 (by assumption) rfl ?_
    refine fx_aloadn dX4_passSign_13 rfl ?_
    refine fx_get dX4_passSign_14 ffX4_31 (by assumption) rfl ?_
    refine fx_callV dX4_passSign_17 vX4_addItem kkX4_106 rfl rfl e1 (c_se_addItem (⟨fk, fc, gk, gc, e, hI, hA⟩ : sw h a pik pic pak pac I tot x A pr) x hlt) rfl (by decide) (by decide) (Nat.zero_le _) (Nat.zero_le _) rfl (Nat.le_of_ble_eq_true rfl) (fun r h1 hk1 => ?_)
    obtain ⟨rfl, E1, k1⟩ := hk1
    refine fx_vret dX4_passSign_20 rfl ?_
    rw [nf_1 hx3]
    exact ⟨rfl, E1, k1⟩
theorem c_se_goOn {g : fx_G} {h : fx_H} {a pik pic pak pac pr : Nat} {I A : List sg} {x : sg} {tot : Int64} {y : sg} (E : sw h a pik pic pak pac I tot x (y :: A) pr) (hx : x.1 < 4) (hlt : I.length < 1000) (hl2 : (y :: A).length ≤ 1000) : fx_Met g mX4_goOn 2 42 [.ref a] h 0 0 (fun r h' => r = none ∧ sw h' a pik pic pak pac (I ++ nf [x]) tot y A pr ∧ kp (sS a pik pic pak pac) h h') := by
  refine fx_Met.of rfl (Nat.le_of_ble_eq_true rfl) ?_
  refine fx_aloadn dX4_goOn_0 rfl ?_
  obtain ⟨fs1, at1⟩ := E.at
  refine fx_callV dX4_goOn_1 vX4_passSign kkX4_99 rfl rfl at1 (c_se_passSign E hx hlt) rfl (by decide) (by decide) (Nat.zero_le _) (Nat.zero_le _) rfl (Nat.le_of_ble_eq_true rfl) (fun r1 h1 hk1 => ?_)
  obtain ⟨rfl, E1, k1⟩ := hk1
  refine fx_aloadn dX4_goOn_4 rfl ?_
  obtain ⟨fs2, at2⟩ := E1.at
  refine fx_callV dX4_goOn_5 vX4_pop kkX4_109 rfl rfl at2 (c_se_pop E1 hl2) rfl (by decide) (by decide) (Nat.zero_le _) (Nat.zero_le _) rfl (Nat.le_of_ble_eq_true rfl) (fun r2 h2 hk2 => ?_)
  obtain ⟨rfl, E2, k2⟩ := hk2
  refine fx_vret dX4_goOn_8 rfl ?_
  exact ⟨rfl, E2, (k1.tr k2 (fun _ z _ => z))⟩
theorem nI_ge9 {x y : Nat} (h : x < y) (hy : y < 2 ^ 31) : ¬ nI y ≤ nI x := nI_ge h hy
theorem c_se_kern {g : fx_G} {h : fx_H} {a pik pic pak pac pr : Nat} {I A : List sg} {x : sg} {tot : Int64} {y : sg} (E : sw h a pik pic pak pac I tot x (y :: A) pr) (v : Int32) (hx : x.1 < 4) (hlt : I.length + 1 < 1000) (hl2 : (y :: A).length ≤ 1000) (hpr : pr ≤ 1000) : fx_Met g mX4_kern 2 42 [.ref a, .int v] h 0 0 (fun r h' => r = none ∧ ((pr + 1 ≤ 1000 ∧ sw h' a pik pic pak pac (I ++ nf [x] ++ [(2, v)]) tot y A (pr + 1)) ∨ (1000 < pr + 1 ∧ sw h' a pik pic pak pac I tot x (y :: A) (pr + 1))) ∧ kp (sS a pik pic pak pac) h h') := by
  obtain ⟨fk, fc, gk, gc, e, hI, hA⟩ := E
  obtain ⟨e1, e2, e3, e4, e5, e6⟩ := id e
  refine fx_Met.of rfl (Nat.le_of_ble_eq_true rfl) ?_
  by_cases hp : pr + 1 ≤ 1000
  · skip
    refine fx_aloadn dX4_kern_0 rfl ?_
    refine fx_dup dX4_kern_1 rfl ?_
    refine fx_get dX4_kern_2 ffX4_43 (by assumption) rfl ?_
    refine fx_iconst (nI 1) dX4_kern_5 (by decide) ?_
    refine fx_iadd dX4_kern_6 ?_
    rw [nI_add]
    refine fx_putV dX4_kern_7 ffX4_43 e1 rfl rfl (Nat.le_of_ble_eq_true rfl) (fun h1 q1 o1 => ?_)
    have E1 : sw h1 a pik pic pak pac I tot x (y :: A) (pr + 1) := ⟨fk, fc, gk, gc, e.obj q1 o1, hI, hA⟩
    have k1 := kp.put (kp.rf (S := sS a pik pic pak pac)) o1 (Or.inl (Or.inl rfl))
    obtain ⟨z1, z2, z3, z4, z5, z6⟩ := e.obj q1 o1
    refine fx_aloadn dX4_kern_10 rfl ?_
    refine fx_get dX4_kern_11 ffX4_43 (by assumption) rfl ?_
    refine fx_sipush (nI 1000) dX4_kern_14 (by decide) ?_
    refine fx_icmp_le 21 dX4_kern_17 (by decide) (fun c17 => ?_) (fun c17 => absurd (nI_le (show pr + 1 ≤ 1000 by omega) (by decide)) c17)
    refine fx_aloadn dX4_kern_21 rfl ?_
    obtain ⟨fs2, at2⟩ := E1.at
    refine fx_callV dX4_kern_22 vX4_passSign kkX4_99 rfl rfl at2 (c_se_passSign E1 hx (by omega)) rfl (by decide) (by decide) (Nat.zero_le _) (Nat.zero_le _) rfl (Nat.le_of_ble_eq_true rfl) (fun r2 h2 hk2 => ?_)
    obtain ⟨rfl, E2, k2⟩ := hk2
    refine fx_aloadn dX4_kern_25 rfl ?_
    refine fx_iconst (nI 2) dX4_kern_26 (by decide) ?_
    refine fx_iloadn dX4_kern_27 rfl ?_
    obtain ⟨fs3, at3⟩ := E2.at
    refine fx_callV dX4_kern_28 vX4_addItem kkX4_106 rfl rfl at3 (c_se_addItem E2 (2, v) (by rw [List.length_append]; have := nf_le [x]; have : [x].length = 1 := rfl; omega)) rfl (by decide) (by decide) (Nat.zero_le _) (Nat.zero_le _) rfl (Nat.le_of_ble_eq_true rfl) (fun r3 h3 hk3 => ?_)
    obtain ⟨rfl, E3, k3⟩ := hk3
    refine fx_aloadn dX4_kern_31 rfl ?_
    obtain ⟨fs4, at4⟩ := E3.at
    refine fx_callV dX4_kern_32 vX4_pop kkX4_109 rfl rfl at4 (c_se_pop E3 hl2) rfl (by decide) (by decide) (Nat.zero_le _) (Nat.zero_le _) rfl (Nat.le_of_ble_eq_true rfl) (fun r4 h4 hk4 => ?_)
    obtain ⟨rfl, E4, k4⟩ := hk4
    refine fx_vret dX4_kern_35 rfl ?_
    exact ⟨rfl, Or.inl ⟨by omega, E4⟩, (k1.tr (k2.tr (k3.tr k4 (fun _ z _ => z)) (fun _ z _ => z)) (fun _ z _ => z))⟩
  · skip
    refine fx_aloadn dX4_kern_0 rfl ?_
    refine fx_dup dX4_kern_1 rfl ?_
    refine fx_get dX4_kern_2 ffX4_43 (by assumption) rfl ?_
    refine fx_iconst (nI 1) dX4_kern_5 (by decide) ?_
    refine fx_iadd dX4_kern_6 ?_
    rw [nI_add]
    refine fx_putV dX4_kern_7 ffX4_43 e1 rfl rfl (Nat.le_of_ble_eq_true rfl) (fun h1 q1 o1 => ?_)
    have E1 : sw h1 a pik pic pak pac I tot x (y :: A) (pr + 1) := ⟨fk, fc, gk, gc, e.obj q1 o1, hI, hA⟩
    have k1 := kp.put (kp.rf (S := sS a pik pic pak pac)) o1 (Or.inl (Or.inl rfl))
    obtain ⟨z1, z2, z3, z4, z5, z6⟩ := e.obj q1 o1
    refine fx_aloadn dX4_kern_10 rfl ?_
    refine fx_get dX4_kern_11 ffX4_43 (by assumption) rfl ?_
    refine fx_sipush (nI 1000) dX4_kern_14 (by decide) ?_
    refine fx_icmp_le 21 dX4_kern_17 (by decide) (fun c17 => absurd c17 (nI_ge9 (show 1000 < pr + 1 by omega) (by omega))) (fun c17 => ?_)
    refine fx_vret dX4_kern_20 rfl ?_
    exact ⟨rfl, Or.inr ⟨by omega, E1⟩, k1⟩
