/-! FontDeskModel: its list of signs -/
def rt (h : fx_H) (m pb pf pz pt pp ph pk pc : Nat) (F : Nat → (Nat → Nat) × Nat × Int32) (N : Nat) (B : Nat → Nat) (n9 E : Nat) (L : List sg) (T : Int64) (th : Int32) (k : Nat) : Prop := ∃ (fb ff fz ft fp fh fk fc : Nat → Int32), rx h m pb pf pz pt pp ph pk pc fb ff fz ft fp fh fk fc th 0 N E (nI (ro F k)) L.length T ∧ sl L fk fc ∧ rv F N B n9 fb ff fz ∧ N ≤ 32 ∧ ro F N + n9 ≤ 4096 ∧ foks F N
def sh (f : Nat → Int32) (i n : Nat) : Nat → Int32 := fun j => if i < j ∧ j ≤ n then f (j - 1) else f j
theorem sh_n (f : Nat → Int32) (n : Nat) : sh f n n = f := by
  funext j
  exact if_neg (by omega)
theorem sh_s (f : Nat → Int32) (i n : Nat) (hi : i + 1 ≤ n) : upd (sh f (i + 1) n) (i + 1) (sh f (i + 1) n i) = sh f i n := by
  funext j
  by_cases e : j = i + 1
  · rw [e, pk_us]
    show (if i + 1 < i ∧ i ≤ n then f (i - 1) else f i) = (if i < i + 1 ∧ i + 1 ≤ n then f (i + 1 - 1) else f (i + 1))
    rw [if_neg (by omega), if_pos (by omega)]
    rfl
  · rw [pk_un e]
    show (if i + 1 < j ∧ j ≤ n then f (j - 1) else f j) = (if i < j ∧ j ≤ n then f (j - 1) else f j)
    by_cases q : i + 1 < j ∧ j ≤ n
    · rw [if_pos q, if_pos (by omega)]
    · rw [if_neg q, if_neg (by omega)]
def cl (f : Nat → Int32) (k i : Nat) : Nat → Int32 := fun j => if k ≤ j ∧ j < i then f (j + 1) else f j
theorem cl_0 (f : Nat → Int32) (k : Nat) : cl f k k = f := by
  funext j
  exact if_neg (by omega)
theorem cl_s (f : Nat → Int32) (k i : Nat) (hi : k ≤ i) : upd (cl f k i) i (cl f k i (i + 1)) = cl f k (i + 1) := by
  funext j
  by_cases e : j = i
  · rw [e, pk_us]
    show (if k ≤ i + 1 ∧ i + 1 < i then f (i + 1 + 1) else f (i + 1)) = (if k ≤ i ∧ i < i + 1 then f (i + 1) else f i)
    rw [if_neg (by omega), if_pos (by omega)]
  · rw [pk_un e]
    show (if k ≤ j ∧ j < i then f (j + 1) else f j) = (if k ≤ j ∧ j < i + 1 then f (j + 1) else f j)
    by_cases q : k ≤ j ∧ j < i
    · rw [if_pos q, if_pos (by omega)]
    · rw [if_neg q, if_neg (by omega)]
theorem lt_of_at {L : List sg} {j : Nat} {s : sg} (h : L[j]? = some s) : j < L.length := by
  rcases Nat.lt_or_ge j L.length with q | q
  · exact q
  · rw [List.getElem?_eq_none q] at h
    cases h
theorem sl.opn {P Q : List sg} {fk fc : Nat → Int32} (h : sl (P ++ Q) fk fc) (s : sg) : sl (P ++ s :: Q) (upd (sh fk P.length (P ++ Q).length) P.length (nI s.1)) (upd (sh fc P.length (P ++ Q).length) P.length s.2) := by
  intro j t ht
  have hj := lt_of_at ht
  rw [List.length_append] at hj ⊢
  have hj2 : j < P.length + (Q.length + 1) := hj
  by_cases e : j < P.length
  · rw [List.getElem?_append_left e] at ht
    rw [pk_un (by omega), pk_un (by omega)]
    show (if P.length < j ∧ _ then _ else fk j) = _ ∧ (if P.length < j ∧ _ then _ else fc j) = _
    rw [if_neg (by omega), if_neg (by omega)]
    exact h j t (by rw [List.getElem?_append_left e]; exact ht)
  · rw [List.getElem?_append_right (by omega)] at ht
    by_cases e2 : j = P.length
    · rw [e2, Nat.sub_self] at ht
      cases ht
      rw [e2, pk_us, pk_us]
      exact ⟨rfl, rfl⟩
    · rw [pk_un e2, pk_un e2]
      show (if P.length < j ∧ j ≤ P.length + Q.length then fk (j - 1) else fk j) = _ ∧ (if P.length < j ∧ j ≤ P.length + Q.length then fc (j - 1) else fc j) = _
      rw [if_pos (by omega), if_pos (by omega)]
      rw [show j - P.length = (j - 1 - P.length) + 1 by omega, List.getElem?_cons_succ] at ht
      exact h (j - 1) t (by rw [List.getElem?_append_right (by omega)]; exact ht)
theorem sl.close {P Q : List sg} {s : sg} {fk fc : Nat → Int32} (h : sl (P ++ s :: Q) fk fc) : sl (P ++ Q) (cl fk P.length (P ++ Q).length) (cl fc P.length (P ++ Q).length) := by
  intro j t ht
  have hj := lt_of_at ht
  by_cases e : j < P.length
  · rw [List.getElem?_append_left e] at ht
    show (if P.length ≤ j ∧ _ then _ else fk j) = _ ∧ (if P.length ≤ j ∧ _ then _ else fc j) = _
    rw [if_neg (by omega), if_neg (by omega)]
    exact h j t (by rw [List.getElem?_append_left e]; exact ht)
  · rw [List.getElem?_append_right (by omega)] at ht
    show (if P.length ≤ j ∧ j < _ then fk (j + 1) else _) = _ ∧ (if P.length ≤ j ∧ j < _ then fc (j + 1) else _) = _
    rw [if_pos (by omega), if_pos (by omega)]
    exact h (j + 1) t (by rw [List.getElem?_append_right (by omega), show j + 1 - P.length = (j - P.length) + 1 by omega, List.getElem?_cons_succ]; exact ht)
theorem sl.change {P Q : List sg} {s : sg} {fk fc : Nat → Int32} (h : sl (P ++ s :: Q) fk fc) (t : sg) : sl (P ++ t :: Q) (upd fk P.length (nI t.1)) (upd fc P.length t.2) := by
  intro j u hu
  by_cases e : j = P.length
  · rw [e, List.getElem?_append_right (Nat.le_refl _), Nat.sub_self] at hu
    cases hu
    rw [e, pk_us, pk_us]
    exact ⟨rfl, rfl⟩
  · rw [pk_un e, pk_un e]
    refine h j u ?_
    by_cases e2 : j < P.length
    · rw [List.getElem?_append_left e2] at hu ⊢
      exact hu
    · rw [List.getElem?_append_right (by omega), show j - P.length = (j - P.length - 1) + 1 by omega, List.getElem?_cons_succ] at hu ⊢
      exact hu
theorem sl.here {P Q : List sg} {s : sg} {fk fc : Nat → Int32} (h : sl (P ++ s :: Q) fk fc) : fk P.length = nI s.1 ∧ fc P.length = s.2 := h _ _ (by rw [List.getElem?_append_right (Nat.le_refl _), Nat.sub_self]; rfl)
theorem sl.next {P Q : List sg} {s t : sg} {fk fc : Nat → Int32} (h : sl (P ++ s :: t :: Q) fk fc) : fk (P.length + 1) = nI t.1 ∧ fc (P.length + 1) = t.2 := h _ _ (by rw [List.getElem?_append_right (by omega), show P.length + 1 - P.length = 0 + 1 by omega, List.getElem?_cons_succ]; rfl)

theorem rt.at {h : fx_H} {m pb pf pz pt pp ph pk pc N n9 E k : Nat} {F : Nat → (Nat → Nat) × Nat × Int32} {B : Nat → Nat} {T : Int64} {th : Int32} {L : List sg} (H : rt h m pb pf pz pt pp ph pk pc F N B n9 E L T th k) : ∃ fs : List Value, h m = some (.inr (5, fs)) := by
  obtain ⟨fb, ff, fz, ft, fp, fh, fk, fc, E0, -⟩ := H
  exact ⟨_, E0.1⟩
theorem rt.D {h : fx_H} {m pb pf pz pt pp ph pk pc N n9 E k : Nat} {F : Nat → (Nat → Nat) × Nat × Int32} {B : Nat → Nat} {T : Int64} {th : Int32} {L : List sg} (H : rt h m pb pf pz pt pp ph pk pc F N B n9 E L T th k) (hk : k < N) : rd h m (F k).1 (4 * (F k).2.1) := by
  obtain ⟨fb, ff, fz, ft, fp, fh, fk, fc, E0, hL, hv, hN, hro, hfk⟩ := H
  have h1 := ro_mono (F := F) (show k + 1 ≤ N from hk)
  have h2 : ro F (k + 1) = ro F k + 4 * (F k).2.1 := rfl
  exact E0.rD rfl (by omega) (hv.2.1 k hk).2
theorem rt.to {h : fx_H} {m pb pf pz pt pp ph pk pc N n9 E k : Nat} {F : Nat → (Nat → Nat) × Nat × Int32} {B : Nat → Nat} {T : Int64} {th : Int32} {L L' : List sg} (H : rt h m pb pf pz pt pp ph pk pc F N B n9 E L T th k) (e : L = L') : rt h m pb pf pz pt pp ph pk pc F N B n9 E L' T th k := by
  subst e
  exact H
theorem c_rt_change {g : fx_G} {h : fx_H} {m pb pf pz pt pp ph pk pc N n9 E k : Nat} {F : Nat → (Nat → Nat) × Nat × Int32} {B : Nat → Nat} {T : Int64} {th : Int32} {P Q : List sg} {s : sg} (H : rt h m pb pf pz pt pp ph pk pc F N B n9 E (P ++ s :: Q) T th k) (r : Int32) (hP : P.length < 1002) : fx_Met g mX6_change 0 0 [.ref m, .int (nI P.length), .int r] h 0 0 (fun q h' => q = none ∧ rt h' m pb pf pz pt pp ph pk pc F N B n9 E (P ++ (1, r) :: Q) T th k ∧ kp (rC m pb pf pz pt pp ph pk pc) h h') := by
  obtain ⟨fb, ff, fz, ft, fp, fh, fk, fc, E0, hL, hv, hN, hro, hfk⟩ := H
  obtain ⟨e0, ⟨e1, e2, e3, e4, e5, e6, e7, e8⟩, -⟩ := id E0
  refine fx_Met.of rfl (Nat.le_of_ble_eq_true rfl) ?_
  refine fx_aloadn dX6_change_0 rfl ?_
  refine fx_get dX6_change_1 ffX6_31 (by assumption) rfl ?_
  refine fx_iloadn dX6_change_4 rfl ?_
  refine fx_iconst (nI 1) dX6_change_5 (by decide) ?_
  refine fx_iastV dX6_change_6 e7 (vp_in_nI (show P.length < 1002 by omega) (by decide)) (fun h1 q1 o1 => ?_)
  rw [nI_clamp (by omega)] at q1
  have E1 := E0.fk q1 o1
  have k1 := kp.put (kp.rf (S := rC m pb pf pz pt pp ph pk pc)) o1 (Or.inl (Or.inr (Or.inr (Or.inr (Or.inr (Or.inr (Or.inr (Or.inr (Or.inl rfl)))))))))
  obtain ⟨e0, ⟨e1, e2, e3, e4, e5, e6, e7, e8⟩, -⟩ := id E1
  refine fx_aloadn dX6_change_7 rfl ?_
  refine fx_get dX6_change_8 ffX6_34 (by assumption) rfl ?_
  refine fx_iloadn dX6_change_11 rfl ?_
  refine fx_iloadn dX6_change_12 rfl ?_
  refine fx_iastV dX6_change_13 e8 (vp_in_nI (show P.length < 1002 by omega) (by decide)) (fun h2 q2 o2 => ?_)
  rw [nI_clamp (by omega)] at q2
  have E2 := E1.fc q2 o2
  have k2 := kp.put k1 o2 (Or.inl (Or.inr (Or.inr (Or.inr (Or.inr (Or.inr (Or.inr (Or.inr (Or.inr (rfl))))))))))
  refine fx_vret dX6_change_14 rfl ?_
  refine ⟨rfl, ⟨fb, ff, fz, ft, fp, fh, _, _, ?_, hL.change (1, r), hv, hN, hro, hfk⟩, k2⟩
  have e9 : (P ++ (1, r) :: Q).length = (P ++ s :: Q).length := by rw [List.length_append, List.length_append]; rfl
  rw [e9]
  exact E2
theorem l_rt_open {g : fx_G} {h0 : fx_H} {m pb pf pz pt pp ph pk pc len nfo fl it n p : Nat} {fb ff fz ft fp fh fk fc : Nat → Int32} {th bs : Int32} {wi : Int64} (x y : Int32) (hn : n < 1002) (K : Option Value → fx_H → Prop) (J : ∀ (lv : List (Nat × Value)) (h : fx_H), fx_le [(0, .ref m), (1, .int (nI p)), (2, .int x), (3, .int y)] lv → rx h m pb pf pz pt pp ph pk pc fb ff fz ft fp fh (sh fk p n) (sh fc p n) th len nfo fl bs it wi → kp (rC m pb pf pz pt pp ph pk pc) h0 h → fx_Y g mX6_open 0 0 K (fun _ _ => False) 50 lv [] h 0 0) : ∀ (i0 : Nat) (h : fx_H), p ≤ i0 ∧ i0 ≤ n → rx h m pb pf pz pt pp ph pk pc fb ff fz ft fp fh (sh fk i0 n) (sh fc i0 n) th len nfo fl bs it wi → kp (rC m pb pf pz pt pp ph pk pc) h0 h → fx_Y g mX6_open 0 0 K (fun _ _ => False) 6 [(0, .ref m), (1, .int (nI p)), (2, .int x), (3, .int y), (4, .int (nI i0))] [] h 0 0 := by
  intro i0
  induction i0 using Nat.strongRecOn with
  | ind i0 ih =>
  intro h hi E0 hk
  obtain ⟨e0, ⟨e1, e2, e3, e4, e5, e6, e7, e8⟩, -⟩ := id E0
  by_cases hp : i0 = p
  · skip
    refine fx_iload dX6_open_6 rfl ?_
    refine fx_iloadn dX6_open_8 rfl ?_
    refine fx_icmp_le 50 dX6_open_9 (by decide) (fun c9 => ?_) (fun c9 => absurd (nI_le (by omega) (by omega)) c9)
    have hi : i0 = p := by omega
    subst hi
    exact J _ h ⟨rfl, rfl, rfl, rfl, trivial⟩ E0 hk
  · cases i0 with
    | zero => omega
    | succ i =>
      refine fx_iload dX6_open_6 rfl ?_
      refine fx_iloadn dX6_open_8 rfl ?_
      refine fx_icmp_le 50 dX6_open_9 (by decide) (fun c9 => absurd c9 (by rw [nI_leI (by omega) (by omega)]; omega)) (fun c9 => ?_)
      refine fx_aloadn dX6_open_12 rfl ?_
      refine fx_get dX6_open_13 ffX6_31 (by assumption) rfl ?_
      refine fx_iload dX6_open_16 rfl ?_
      refine fx_aloadn dX6_open_18 rfl ?_
      refine fx_get dX6_open_19 ffX6_31 (by assumption) rfl ?_
      refine fx_iload dX6_open_22 rfl ?_
      refine fx_iconst (nI 1) dX6_open_24 (by decide) ?_
      refine fx_isub dX6_open_25 ?_
      rw [pk_sub (by omega), show i + 1 - 1 = i by omega]
      refine fx_iald dX6_open_26 e7 (vp_in_nI (show i < 1002 by omega) (by decide)) ?_
      rw [nI_clamp (by omega)]
      refine fx_iastV dX6_open_27 e7 (vp_in_nI (show i + 1 < 1002 by omega) (by decide)) (fun h1 q1 o1 => ?_)
      rw [nI_clamp (by omega), sh_s fk i n (by omega)] at q1
      have E1 := E0.fk q1 o1
      have k1 := kp.put hk o1 (Or.inl (Or.inr (Or.inr (Or.inr (Or.inr (Or.inr (Or.inr (Or.inr (Or.inl rfl)))))))))
      obtain ⟨e0, ⟨e1, e2, e3, e4, e5, e6, e7, e8⟩, -⟩ := id E1
      refine fx_aloadn dX6_open_28 rfl ?_
      refine fx_get dX6_open_29 ffX6_34 (by assumption) rfl ?_
      refine fx_iload dX6_open_32 rfl ?_
      refine fx_aloadn dX6_open_34 rfl ?_
      refine fx_get dX6_open_35 ffX6_34 (by assumption) rfl ?_
      refine fx_iload dX6_open_38 rfl ?_
      refine fx_iconst (nI 1) dX6_open_40 (by decide) ?_
      refine fx_isub dX6_open_41 ?_
      rw [pk_sub (by omega), show i + 1 - 1 = i by omega]
      refine fx_iald dX6_open_42 e8 (vp_in_nI (show i < 1002 by omega) (by decide)) ?_
      rw [nI_clamp (by omega)]
      refine fx_iastV dX6_open_43 e8 (vp_in_nI (show i + 1 < 1002 by omega) (by decide)) (fun h2 q2 o2 => ?_)
      rw [nI_clamp (by omega), sh_s fc i n (by omega)] at q2
      have E2 := E1.fc q2 o2
      have k2 := kp.put k1 o2 (Or.inl (Or.inr (Or.inr (Or.inr (Or.inr (Or.inr (Or.inr (Or.inr (Or.inr (rfl))))))))))
      refine fx_iinc (-1) dX6_open_44 rfl (by decide) (by decide) ?_
      refine fx_goto 6 dX6_open_47 (by decide) ?_
      rw [pk_m1]
      exact fx_to (ih i (by omega) h2 (by omega) E2 k2) ⟨rfl, rfl, rfl, rfl, rfl, trivial⟩
theorem c_rt_open {g : fx_G} {h : fx_H} {m pb pf pz pt pp ph pk pc N n9 E k : Nat} {F : Nat → (Nat → Nat) × Nat × Int32} {B : Nat → Nat} {T : Int64} {th : Int32} {P Q : List sg} (H : rt h m pb pf pz pt pp ph pk pc F N B n9 E (P ++ Q) T th k) (s : sg) (hPQ : (P ++ Q).length < 1002) : fx_Met g mX6_open 0 0 [.ref m, .int (nI P.length), .int (nI s.1), .int s.2] h 0 0 (fun q h' => q = none ∧ rt h' m pb pf pz pt pp ph pk pc F N B n9 E (P ++ s :: Q) T th k ∧ kp (rC m pb pf pz pt pp ph pk pc) h h') := by
  obtain ⟨fb, ff, fz, ft, fp, fh, fk, fc, E0, hL, hv, hN, hro, hfk⟩ := H
  obtain ⟨e0, ⟨e1, e2, e3, e4, e5, e6, e7, e8⟩, -⟩ := id E0
  refine fx_Met.of rfl (Nat.le_of_ble_eq_true rfl) ?_
  refine fx_aloadn dX6_open_0 rfl ?_
  refine fx_get dX6_open_1 ffX6_145 (by assumption) rfl ?_
  refine fx_istore dX6_open_4 (by decide) ?_
  refine fx_to (l_rt_open (h0 := h) (fb := fb) (ff := ff) (fz := fz) (ft := ft) (fp := fp) (fh := fh) (fk := fk) (fc := fc) (nI s.1) s.2 hPQ _ (fun lv h1 hlv E1 k1 => ?_) (P ++ Q).length h ⟨by rw [List.length_append]; omega, Nat.le_refl _⟩ (by rw [sh_n, sh_n]; exact E0) (kp.rf (S := rC m pb pf pz pt pp ph pk pc))) ⟨rfl, rfl, rfl, rfl, rfl, trivial⟩
  obtain ⟨e0, ⟨e1, e2, e3, e4, e5, e6, e7, e8⟩, -⟩ := id E1
  have hPl : P.length ≤ (P ++ Q).length := by rw [List.length_append]; omega
  refine fx_sub _ hlv ?_
  refine fx_aloadn dX6_open_50 rfl ?_
  refine fx_get dX6_open_51 ffX6_31 (by assumption) rfl ?_
  refine fx_iloadn dX6_open_54 rfl ?_
  refine fx_iloadn dX6_open_55 rfl ?_
  refine fx_iastV dX6_open_56 e7 (vp_in_nI (show P.length < 1002 by omega) (by decide)) (fun h2 q2 o2 => ?_)
  rw [nI_clamp (by omega)] at q2
  have E2 := E1.fk q2 o2
  have k2 := kp.put k1 o2 (Or.inl (Or.inr (Or.inr (Or.inr (Or.inr (Or.inr (Or.inr (Or.inr (Or.inl rfl)))))))))
  obtain ⟨e0, ⟨e1, e2, e3, e4, e5, e6, e7, e8⟩, -⟩ := id E2
  refine fx_aloadn dX6_open_57 rfl ?_
  refine fx_get dX6_open_58 ffX6_34 (by assumption) rfl ?_
  refine fx_iloadn dX6_open_61 rfl ?_
  refine fx_iloadn dX6_open_62 rfl ?_
  refine fx_iastV dX6_open_63 e8 (vp_in_nI (show P.length < 1002 by omega) (by decide)) (fun h3 q3 o3 => ?_)
  rw [nI_clamp (by omega)] at q3
  have E3 := E2.fc q3 o3
  have k3 := kp.put k2 o3 (Or.inl (Or.inr (Or.inr (Or.inr (Or.inr (Or.inr (Or.inr (Or.inr (Or.inr (rfl))))))))))
  obtain ⟨e0, ⟨e1, e2, e3, e4, e5, e6, e7, e8⟩, -⟩ := id E3
  refine fx_aloadn dX6_open_64 rfl ?_
  refine fx_dup dX6_open_65 rfl ?_
  refine fx_get dX6_open_66 ffX6_145 (by assumption) rfl ?_
  refine fx_iconst (nI 1) dX6_open_69 (by decide) ?_
  refine fx_iadd dX6_open_70 ?_
  rw [nI_add]
  refine fx_putV dX6_open_71 ffX6_145 e0 rfl rfl (Nat.le_of_ble_eq_true rfl) (fun h4 q4 o4 => ?_)
  have k4 := kp.put k3 o4 (Or.inl (Or.inl rfl))
  refine fx_vret dX6_open_74 rfl ?_
  refine ⟨rfl, ⟨fb, ff, fz, ft, fp, fh, _, _, E3.obj (it' := (P ++ s :: Q).length) (by rw [show (P ++ s :: Q).length = (P ++ Q).length + 1 by rw [List.length_append, List.length_append]; rfl]; exact q4) o4, hL.opn s, hv, hN, hro, hfk⟩, k4⟩
theorem l_rt_close {g : fx_G} {h0 : fx_H} {m pb pf pz pt pp ph pk pc len nfo fl it p : Nat} {fb ff fz ft fp fh fk fc : Nat → Int32} {th bs : Int32} {wi : Int64} (hit : it < 1001) (K : Option Value → fx_H → Prop) (J : ∀ (h : fx_H), rx h m pb pf pz pt pp ph pk pc fb ff fz ft fp fh (cl fk p it) (cl fc p it) th len nfo fl bs it wi → kp (rC m pb pf pz pt pp ph pk pc) h0 h → K none h) : ∀ (n : Nat) (h : fx_H) (i : Nat), i + n = it → p ≤ i → rx h m pb pf pz pt pp ph pk pc fb ff fz ft fp fh (cl fk p i) (cl fc p i) th len nfo fl bs it wi → kp (rC m pb pf pz pt pp ph pk pc) h0 h → fx_Y g mX6_close 0 0 K (fun _ _ => False) 12 [(0, .ref m), (2, .int (nI i))] [] h 0 0 := by
  intro n
  induction n using Nat.strongRecOn with
  | ind n ih =>
  intro h i hn hi E0 hk
  obtain ⟨e0, ⟨e1, e2, e3, e4, e5, e6, e7, e8⟩, -⟩ := id E0
  by_cases hn0 : n = 0
  · skip
    refine fx_iloadn dX6_close_12 rfl ?_
    refine fx_aloadn dX6_close_13 rfl ?_
    refine fx_get dX6_close_14 ffX6_145 (by assumption) rfl ?_
    refine fx_icmp_ge 54 dX6_close_17 (by decide) (fun c17 => ?_) (fun c17 => absurd (nI_le (by omega) (by omega)) c17)
    refine fx_vret dX6_close_54 rfl ?_
    have hi9 : i = it := by omega
    subst hi9
    exact J h E0 hk
  · skip
    refine fx_iloadn dX6_close_12 rfl ?_
    refine fx_aloadn dX6_close_13 rfl ?_
    refine fx_get dX6_close_14 ffX6_145 (by assumption) rfl ?_
    refine fx_icmp_ge 54 dX6_close_17 (by decide) (fun c17 => absurd c17 (nI_ge (show i < it by omega) (by omega))) (fun c17 => ?_)
    refine fx_aloadn dX6_close_20 rfl ?_
    refine fx_get dX6_close_21 ffX6_31 (by assumption) rfl ?_
    refine fx_iloadn dX6_close_24 rfl ?_
    refine fx_aloadn dX6_close_25 rfl ?_
    refine fx_get dX6_close_26 ffX6_31 (by assumption) rfl ?_
    refine fx_iloadn dX6_close_29 rfl ?_
    refine fx_iconst (nI 1) dX6_close_30 (by decide) ?_
    refine fx_iadd dX6_close_31 ?_
    rw [nI_add]
    refine fx_iald dX6_close_32 e7 (vp_in_nI (show i + 1 < 1002 by omega) (by decide)) ?_
    rw [nI_clamp (by omega)]
    refine fx_iastV dX6_close_33 e7 (vp_in_nI (show i < 1002 by omega) (by decide)) (fun h1 q1 o1 => ?_)
    rw [nI_clamp (by omega), cl_s fk p i hi] at q1
    have E1 := E0.fk q1 o1
    have k1 := kp.put hk o1 (Or.inl (Or.inr (Or.inr (Or.inr (Or.inr (Or.inr (Or.inr (Or.inr (Or.inl rfl)))))))))
    obtain ⟨e0, ⟨e1, e2, e3, e4, e5, e6, e7, e8⟩, -⟩ := id E1
    refine fx_aloadn dX6_close_34 rfl ?_
    refine fx_get dX6_close_35 ffX6_34 (by assumption) rfl ?_
    refine fx_iloadn dX6_close_38 rfl ?_
    refine fx_aloadn dX6_close_39 rfl ?_
    refine fx_get dX6_close_40 ffX6_34 (by assumption) rfl ?_
    refine fx_iloadn dX6_close_43 rfl ?_
    refine fx_iconst (nI 1) dX6_close_44 (by decide) ?_
    refine fx_iadd dX6_close_45 ?_
    rw [nI_add]
    refine fx_iald dX6_close_46 e8 (vp_in_nI (show i + 1 < 1002 by omega) (by decide)) ?_
    rw [nI_clamp (by omega)]
    refine fx_iastV dX6_close_47 e8 (vp_in_nI (show i < 1002 by omega) (by decide)) (fun h2 q2 o2 => ?_)
    rw [nI_clamp (by omega), cl_s fc p i hi] at q2
    have E2 := E1.fc q2 o2
    have k2 := kp.put k1 o2 (Or.inl (Or.inr (Or.inr (Or.inr (Or.inr (Or.inr (Or.inr (Or.inr (Or.inr (rfl))))))))))
    refine fx_iinc (nI 1) dX6_close_48 rfl (by decide) (by decide) ?_
    refine fx_goto 12 dX6_close_51 (by decide) ?_
    simp only [nI_add]
    exact fx_to (ih (n - 1) (by omega) h2 (i + 1) (by omega) (by omega) E2 k2) ⟨rfl, rfl, trivial⟩
theorem c_rt_close {g : fx_G} {h : fx_H} {m pb pf pz pt pp ph pk pc N n9 E k : Nat} {F : Nat → (Nat → Nat) × Nat × Int32} {B : Nat → Nat} {T : Int64} {th : Int32} {P Q : List sg} {s : sg} (H : rt h m pb pf pz pt pp ph pk pc F N B n9 E (P ++ s :: Q) T th k) (hPQ : (P ++ Q).length < 1001) : fx_Met g mX6_close 0 0 [.ref m, .int (nI P.length)] h 0 0 (fun q h' => q = none ∧ rt h' m pb pf pz pt pp ph pk pc F N B n9 E (P ++ Q) T th k ∧ kp (rC m pb pf pz pt pp ph pk pc) h h') := by
  have hlen : (P ++ s :: Q).length = (P ++ Q).length + 1 := by rw [List.length_append, List.length_append]; rfl
  obtain ⟨fb, ff, fz, ft, fp, fh, fk, fc, E0, hL, hv, hN, hro, hfk⟩ := H
  obtain ⟨e0, ⟨e1, e2, e3, e4, e5, e6, e7, e8⟩, -⟩ := id E0
  refine fx_Met.of rfl (Nat.le_of_ble_eq_true rfl) ?_
  refine fx_aloadn dX6_close_0 rfl ?_
  refine fx_dup dX6_close_1 rfl ?_
  refine fx_get dX6_close_2 ffX6_145 (by assumption) rfl ?_
  refine fx_iconst (nI 1) dX6_close_5 (by decide) ?_
  refine fx_isub dX6_close_6 ?_
  rw [pk_sub (by rw [hlen]; omega), hlen, show (P ++ Q).length + 1 - 1 = (P ++ Q).length by omega]
  refine fx_putV dX6_close_7 ffX6_145 e0 rfl rfl (Nat.le_of_ble_eq_true rfl) (fun h1 q1 o1 => ?_)
  have E1 : rx h1 m pb pf pz pt pp ph pk pc fb ff fz ft fp fh fk fc th 0 N E (nI (ro F k)) (P ++ Q).length T := E0.obj q1 o1
  have k1 := kp.put (kp.rf (S := rC m pb pf pz pt pp ph pk pc)) o1 (Or.inl (Or.inl rfl))
  refine fx_iloadn dX6_close_10 rfl ?_
  refine fx_istoren dX6_close_11 (by decide) ?_
  refine fx_to (l_rt_close (h0 := h) (fb := fb) (ff := ff) (fz := fz) (ft := ft) (fp := fp) (fh := fh) (fk := fk) (fc := fc) hPQ _ (fun h2 E2 k2 => ⟨rfl, ⟨fb, ff, fz, ft, fp, fh, _, _, E2, hL.close, hv, hN, hro, hfk⟩, k2⟩) ((P ++ Q).length - P.length) h1 P.length (by rw [List.length_append]; omega) (Nat.le_refl _) (by rw [cl_0, cl_0]; exact E1) k1) ⟨rfl, rfl, trivial⟩
theorem c_rt_join0 {g : fx_G} {h : fx_H} {m pb pf pz pt pp ph pk pc N n9 E k : Nat} {F : Nat → (Nat → Nat) × Nat × Int32} {B : Nat → Nat} {T : Int64} {th : Int32} {P A : List sg} {x y : sg} (H : rt h m pb pf pz pt pp ph pk pc F N B n9 E (P ++ x :: y :: A) T th k) (r : Int32) (hsz : P.length + 1 + (A.length + 1) ≤ 1000) : fx_Met g mX6_join 1 24 [.ref m, .int (nI P.length), .int (nI 0), .int r] h 0 0 (fun q h' => q = some (.int (nI (mz_l 0 r P x y A).1.length)) ∧ rt h' m pb pf pz pt pp ph pk pc F N B n9 E ((mz_l 0 r P x y A).1 ++ (mz_l 0 r P x y A).2.1 :: (mz_l 0 r P x y A).2.2) T th k ∧ kp (rC m pb pf pz pt pp ph pk pc) h h') := by
  refine fx_Met.of rfl (Nat.le_of_ble_eq_true rfl) ?_
  refine fx_iloadn dX6_join_0 rfl ?_
  refine fx_if_ne 19 dX6_join_1 (by decide) (fun c1 => absurd (rfl) c1) (fun c1 => ?_)
  refine fx_aloadn dX6_join_4 rfl ?_
  refine fx_iloadn dX6_join_5 rfl ?_
  refine fx_iloadn dX6_join_6 rfl ?_
  obtain ⟨fs1, at1⟩ := H.at
  refine fx_callV dX6_join_7 vX6_change kkX6_148 rfl rfl at1 (c_rt_change H r (by omega)) rfl (by decide) (by decide) (Nat.zero_le _) (Nat.zero_le _) rfl (Nat.le_of_ble_eq_true rfl) (fun r1 h1 hk1 => ?_)
  obtain ⟨rfl, H1, k1⟩ := hk1
  refine fx_aloadn dX6_join_10 rfl ?_
  refine fx_iloadn dX6_join_11 rfl ?_
  refine fx_iconst (nI 1) dX6_join_12 (by decide) ?_
  refine fx_iadd dX6_join_13 ?_
  rw [nI_add]
  have HB : rt h1 m pb pf pz pt pp ph pk pc F N B n9 E ((P ++ [(1, r)]) ++ y :: A) T th k := H1.to (by rw [List.append_assoc]; rfl)
  obtain ⟨fs2, at2⟩ := HB.at
  have hc2 := c_rt_close (g := g) HB (by rw [List.length_append, List.length_append]; show P.length + 1 + A.length < 1001; omega)
  rw [List.length_append] at hc2
  refine fx_callV dX6_join_14 vX6_close kkX6_152 rfl rfl at2 hc2 rfl (by decide) (by decide) (Nat.zero_le _) (Nat.zero_le _) rfl (Nat.le_of_ble_eq_true rfl) (fun r2 h2 hk2 => ?_)
  obtain ⟨rfl, H2, k2⟩ := hk2
  refine fx_iloadn dX6_join_17 rfl ?_
  refine fx_iret dX6_join_18 rfl ?_
  exact ⟨rfl, H2.to (by rw [List.append_assoc]; rfl), k1.tr k2 (fun _ z _ => z)⟩
theorem c_rt_join1 {g : fx_G} {h : fx_H} {m pb pf pz pt pp ph pk pc N n9 E k : Nat} {F : Nat → (Nat → Nat) × Nat × Int32} {B : Nat → Nat} {T : Int64} {th : Int32} {P A : List sg} {x y : sg} (H : rt h m pb pf pz pt pp ph pk pc F N B n9 E (P ++ x :: y :: A) T th k) (r : Int32) (hsz : P.length + 1 + (A.length + 1) ≤ 1000) : fx_Met g mX6_join 1 24 [.ref m, .int (nI P.length), .int (nI 1), .int r] h 0 0 (fun q h' => q = some (.int (nI (mz_l 1 r P x y A).1.length)) ∧ rt h' m pb pf pz pt pp ph pk pc F N B n9 E ((mz_l 1 r P x y A).1 ++ (mz_l 1 r P x y A).2.1 :: (mz_l 1 r P x y A).2.2) T th k ∧ kp (rC m pb pf pz pt pp ph pk pc) h h') := by
  refine fx_Met.of rfl (Nat.le_of_ble_eq_true rfl) ?_
  refine fx_iloadn dX6_join_0 rfl ?_
  refine fx_if_ne 19 dX6_join_1 (by decide) (fun c1 => ?_) (fun c1 => absurd c1 (by decide))
  refine fx_iloadn dX6_join_19 rfl ?_
  refine fx_iconst (nI 1) dX6_join_20 (by decide) ?_
  refine fx_icmp_eq 29 dX6_join_21 (by decide) (fun c21 => ?_) (fun c21 => absurd (rfl) c21)
  refine fx_aloadn dX6_join_29 rfl ?_
  refine fx_iloadn dX6_join_30 rfl ?_
  refine fx_iloadn dX6_join_31 rfl ?_
  obtain ⟨fs1, at1⟩ := H.at
  refine fx_callV dX6_join_32 vX6_change kkX6_148 rfl rfl at1 (c_rt_change H r (by omega)) rfl (by decide) (by decide) (Nat.zero_le _) (Nat.zero_le _) rfl (Nat.le_of_ble_eq_true rfl) (fun r1 h1 hk1 => ?_)
  obtain ⟨rfl, H1, k1⟩ := hk1
  refine fx_goto 69 dX6_join_35 (by decide) ?_
  refine fx_iloadn dX6_join_69 rfl ?_
  refine fx_iconst (nI 4) dX6_join_70 (by decide) ?_
  refine fx_icmp_ge 78 dX6_join_71 (by decide) (fun c71 => absurd c71 (by decide)) (fun c71 => ?_)
  refine fx_iloadn dX6_join_74 rfl ?_
  refine fx_goto 93 dX6_join_75 (by decide) ?_
  refine fx_iret dX6_join_93 rfl ?_
  exact ⟨rfl, H1, k1⟩
theorem c_rt_join2 {g : fx_G} {h : fx_H} {m pb pf pz pt pp ph pk pc N n9 E k : Nat} {F : Nat → (Nat → Nat) × Nat × Int32} {B : Nat → Nat} {T : Int64} {th : Int32} {P A : List sg} {x y : sg} (H : rt h m pb pf pz pt pp ph pk pc F N B n9 E (P ++ x :: y :: A) T th k) (r : Int32) (hsz : P.length + 1 + (A.length + 1) ≤ 1000) : fx_Met g mX6_join 1 24 [.ref m, .int (nI P.length), .int (nI 2), .int r] h 0 0 (fun q h' => q = some (.int (nI (mz_l 2 r P x y A).1.length)) ∧ rt h' m pb pf pz pt pp ph pk pc F N B n9 E ((mz_l 2 r P x y A).1 ++ (mz_l 2 r P x y A).2.1 :: (mz_l 2 r P x y A).2.2) T th k ∧ kp (rC m pb pf pz pt pp ph pk pc) h h') := by
  refine fx_Met.of rfl (Nat.le_of_ble_eq_true rfl) ?_
  refine fx_iloadn dX6_join_0 rfl ?_
  refine fx_if_ne 19 dX6_join_1 (by decide) (fun c1 => ?_) (fun c1 => absurd c1 (by decide))
  refine fx_iloadn dX6_join_19 rfl ?_
  refine fx_iconst (nI 1) dX6_join_20 (by decide) ?_
  refine fx_icmp_eq 29 dX6_join_21 (by decide) (fun c21 => absurd c21 (by decide)) (fun c21 => ?_)
  refine fx_iloadn dX6_join_24 rfl ?_
  refine fx_iconst (nI 5) dX6_join_25 (by decide) ?_
  refine fx_icmp_ne 38 dX6_join_26 (by decide) (fun c26 => ?_) (fun c26 => absurd c26 (by decide))
  refine fx_iloadn dX6_join_38 rfl ?_
  refine fx_iconst (nI 2) dX6_join_39 (by decide) ?_
  refine fx_icmp_eq 49 dX6_join_40 (by decide) (fun c40 => ?_) (fun c40 => absurd (rfl) c40)
  refine fx_aloadn dX6_join_49 rfl ?_
  refine fx_iloadn dX6_join_50 rfl ?_
  refine fx_iconst (nI 1) dX6_join_51 (by decide) ?_
  refine fx_iadd dX6_join_52 ?_
  refine fx_iloadn dX6_join_53 rfl ?_
  rw [nI_add]
  have HA : rt h m pb pf pz pt pp ph pk pc F N B n9 E ((P ++ [x]) ++ y :: A) T th k := H.to (by rw [List.append_assoc]; rfl)
  obtain ⟨fs1, at1⟩ := HA.at
  have hc1 := c_rt_change (g := g) HA r (by rw [List.length_append]; show P.length + 1 < 1002; omega)
  rw [List.length_append] at hc1
  refine fx_callV dX6_join_54 vX6_change kkX6_148 rfl rfl at1 hc1 rfl (by decide) (by decide) (Nat.zero_le _) (Nat.zero_le _) rfl (Nat.le_of_ble_eq_true rfl) (fun r1 h1 hk1 => ?_)
  obtain ⟨rfl, H1, k1⟩ := hk1
  refine fx_goto 69 dX6_join_57 (by decide) ?_
  refine fx_iloadn dX6_join_69 rfl ?_
  refine fx_iconst (nI 4) dX6_join_70 (by decide) ?_
  refine fx_icmp_ge 78 dX6_join_71 (by decide) (fun c71 => absurd c71 (by decide)) (fun c71 => ?_)
  refine fx_iloadn dX6_join_74 rfl ?_
  refine fx_goto 93 dX6_join_75 (by decide) ?_
  refine fx_iret dX6_join_93 rfl ?_
  exact ⟨rfl, H1.to (by rw [List.append_assoc]; rfl), k1⟩
theorem c_rt_join3 {g : fx_G} {h : fx_H} {m pb pf pz pt pp ph pk pc N n9 E k : Nat} {F : Nat → (Nat → Nat) × Nat × Int32} {B : Nat → Nat} {T : Int64} {th : Int32} {P A : List sg} {x y : sg} (H : rt h m pb pf pz pt pp ph pk pc F N B n9 E (P ++ x :: y :: A) T th k) (r : Int32) (hsz : P.length + 1 + (A.length + 1) ≤ 1000) : fx_Met g mX6_join 1 24 [.ref m, .int (nI P.length), .int (nI 3), .int r] h 0 0 (fun q h' => q = some (.int (nI (mz_l 3 r P x y A).1.length)) ∧ rt h' m pb pf pz pt pp ph pk pc F N B n9 E ((mz_l 3 r P x y A).1 ++ (mz_l 3 r P x y A).2.1 :: (mz_l 3 r P x y A).2.2) T th k ∧ kp (rC m pb pf pz pt pp ph pk pc) h h') := by
  refine fx_Met.of rfl (Nat.le_of_ble_eq_true rfl) ?_
  refine fx_iloadn dX6_join_0 rfl ?_
  refine fx_if_ne 19 dX6_join_1 (by decide) (fun c1 => ?_) (fun c1 => absurd c1 (by decide))
  refine fx_iloadn dX6_join_19 rfl ?_
  refine fx_iconst (nI 1) dX6_join_20 (by decide) ?_
  refine fx_icmp_eq 29 dX6_join_21 (by decide) (fun c21 => absurd c21 (by decide)) (fun c21 => ?_)
  refine fx_iloadn dX6_join_24 rfl ?_
  refine fx_iconst (nI 5) dX6_join_25 (by decide) ?_
  refine fx_icmp_ne 38 dX6_join_26 (by decide) (fun c26 => ?_) (fun c26 => absurd c26 (by decide))
  refine fx_iloadn dX6_join_38 rfl ?_
  refine fx_iconst (nI 2) dX6_join_39 (by decide) ?_
  refine fx_icmp_eq 49 dX6_join_40 (by decide) (fun c40 => absurd c40 (by decide)) (fun c40 => ?_)
  refine fx_iloadn dX6_join_43 rfl ?_
  refine fx_bipush (nI 6) dX6_join_44 (by decide) ?_
  refine fx_icmp_ne 60 dX6_join_46 (by decide) (fun c46 => ?_) (fun c46 => absurd c46 (by decide))
  refine fx_aloadn dX6_join_60 rfl ?_
  refine fx_iloadn dX6_join_61 rfl ?_
  refine fx_iconst (nI 1) dX6_join_62 (by decide) ?_
  refine fx_iadd dX6_join_63 ?_
  refine fx_iconst (nI 1) dX6_join_64 (by decide) ?_
  refine fx_iloadn dX6_join_65 rfl ?_
  rw [nI_add]
  have HA : rt h m pb pf pz pt pp ph pk pc F N B n9 E ((P ++ [x]) ++ (y :: A)) T th k := H.to (by rw [List.append_assoc]; rfl)
  obtain ⟨fs1, at1⟩ := HA.at
  have hc1 := c_rt_open (g := g) HA (1, r) (by rw [List.length_append, List.length_append]; show P.length + 1 + (A.length + 1) < 1002; omega)
  rw [List.length_append (as := P)] at hc1
  refine fx_callV dX6_join_66 vX6_open kkX6_156 rfl rfl at1 hc1 rfl (by decide) (by decide) (Nat.zero_le _) (Nat.zero_le _) rfl (Nat.le_of_ble_eq_true rfl) (fun r1 h1 hk1 => ?_)
  obtain ⟨rfl, H1, k1⟩ := hk1
  refine fx_iloadn dX6_join_69 rfl ?_
  refine fx_iconst (nI 4) dX6_join_70 (by decide) ?_
  refine fx_icmp_ge 78 dX6_join_71 (by decide) (fun c71 => absurd c71 (by decide)) (fun c71 => ?_)
  refine fx_iloadn dX6_join_74 rfl ?_
  refine fx_goto 93 dX6_join_75 (by decide) ?_
  refine fx_iret dX6_join_93 rfl ?_
  exact ⟨rfl, H1.to (by rw [List.append_assoc]; rfl), k1⟩
theorem c_rt_join5 {g : fx_G} {h : fx_H} {m pb pf pz pt pp ph pk pc N n9 E k : Nat} {F : Nat → (Nat → Nat) × Nat × Int32} {B : Nat → Nat} {T : Int64} {th : Int32} {P A : List sg} {x y : sg} (H : rt h m pb pf pz pt pp ph pk pc F N B n9 E (P ++ x :: y :: A) T th k) (r : Int32) (hsz : P.length + 1 + (A.length + 1) ≤ 1000) : fx_Met g mX6_join 1 24 [.ref m, .int (nI P.length), .int (nI 5), .int r] h 0 0 (fun q h' => q = some (.int (nI (mz_l 5 r P x y A).1.length)) ∧ rt h' m pb pf pz pt pp ph pk pc F N B n9 E ((mz_l 5 r P x y A).1 ++ (mz_l 5 r P x y A).2.1 :: (mz_l 5 r P x y A).2.2) T th k ∧ kp (rC m pb pf pz pt pp ph pk pc) h h') := by
  refine fx_Met.of rfl (Nat.le_of_ble_eq_true rfl) ?_
  refine fx_iloadn dX6_join_0 rfl ?_
  refine fx_if_ne 19 dX6_join_1 (by decide) (fun c1 => ?_) (fun c1 => absurd c1 (by decide))
  refine fx_iloadn dX6_join_19 rfl ?_
  refine fx_iconst (nI 1) dX6_join_20 (by decide) ?_
  refine fx_icmp_eq 29 dX6_join_21 (by decide) (fun c21 => absurd c21 (by decide)) (fun c21 => ?_)
  refine fx_iloadn dX6_join_24 rfl ?_
  refine fx_iconst (nI 5) dX6_join_25 (by decide) ?_
  refine fx_icmp_ne 38 dX6_join_26 (by decide) (fun c26 => absurd (rfl) c26) (fun c26 => ?_)
  refine fx_aloadn dX6_join_29 rfl ?_
  refine fx_iloadn dX6_join_30 rfl ?_
  refine fx_iloadn dX6_join_31 rfl ?_
  obtain ⟨fs1, at1⟩ := H.at
  refine fx_callV dX6_join_32 vX6_change kkX6_148 rfl rfl at1 (c_rt_change H r (by omega)) rfl (by decide) (by decide) (Nat.zero_le _) (Nat.zero_le _) rfl (Nat.le_of_ble_eq_true rfl) (fun r1 h1 hk1 => ?_)
  obtain ⟨rfl, H1, k1⟩ := hk1
  refine fx_goto 69 dX6_join_35 (by decide) ?_
  refine fx_iloadn dX6_join_69 rfl ?_
  refine fx_iconst (nI 4) dX6_join_70 (by decide) ?_
  refine fx_icmp_ge 78 dX6_join_71 (by decide) (fun c71 => ?_) (fun c71 => absurd (by decide) c71)
  refine fx_iloadn dX6_join_78 rfl ?_
  refine fx_bipush (nI 11) dX6_join_79 (by decide) ?_
  refine fx_icmp_ne 90 dX6_join_81 (by decide) (fun c81 => ?_) (fun c81 => absurd c81 (by decide))
  refine fx_iloadn dX6_join_90 rfl ?_
  refine fx_iconst (nI 1) dX6_join_91 (by decide) ?_
  refine fx_iadd dX6_join_92 ?_
  refine fx_iret dX6_join_93 rfl ?_
  refine ⟨?_, H1.to (by show _ = (P ++ [(1, r)]) ++ y :: A; rw [List.append_assoc]; rfl), k1⟩
  show some (Value.int (nI P.length + nI 1)) = some (Value.int (nI (P ++ [(1, r)]).length))
  rw [nI_add, List.length_append]
  rfl
theorem c_rt_join6 {g : fx_G} {h : fx_H} {m pb pf pz pt pp ph pk pc N n9 E k : Nat} {F : Nat → (Nat → Nat) × Nat × Int32} {B : Nat → Nat} {T : Int64} {th : Int32} {P A : List sg} {x y : sg} (H : rt h m pb pf pz pt pp ph pk pc F N B n9 E (P ++ x :: y :: A) T th k) (r : Int32) (hsz : P.length + 1 + (A.length + 1) ≤ 1000) : fx_Met g mX6_join 1 24 [.ref m, .int (nI P.length), .int (nI 6), .int r] h 0 0 (fun q h' => q = some (.int (nI (mz_l 6 r P x y A).1.length)) ∧ rt h' m pb pf pz pt pp ph pk pc F N B n9 E ((mz_l 6 r P x y A).1 ++ (mz_l 6 r P x y A).2.1 :: (mz_l 6 r P x y A).2.2) T th k ∧ kp (rC m pb pf pz pt pp ph pk pc) h h') := by
  refine fx_Met.of rfl (Nat.le_of_ble_eq_true rfl) ?_
  refine fx_iloadn dX6_join_0 rfl ?_
  refine fx_if_ne 19 dX6_join_1 (by decide) (fun c1 => ?_) (fun c1 => absurd c1 (by decide))
  refine fx_iloadn dX6_join_19 rfl ?_
  refine fx_iconst (nI 1) dX6_join_20 (by decide) ?_
  refine fx_icmp_eq 29 dX6_join_21 (by decide) (fun c21 => absurd c21 (by decide)) (fun c21 => ?_)
  refine fx_iloadn dX6_join_24 rfl ?_
  refine fx_iconst (nI 5) dX6_join_25 (by decide) ?_
  refine fx_icmp_ne 38 dX6_join_26 (by decide) (fun c26 => ?_) (fun c26 => absurd c26 (by decide))
  refine fx_iloadn dX6_join_38 rfl ?_
  refine fx_iconst (nI 2) dX6_join_39 (by decide) ?_
  refine fx_icmp_eq 49 dX6_join_40 (by decide) (fun c40 => absurd c40 (by decide)) (fun c40 => ?_)
  refine fx_iloadn dX6_join_43 rfl ?_
  refine fx_bipush (nI 6) dX6_join_44 (by decide) ?_
  refine fx_icmp_ne 60 dX6_join_46 (by decide) (fun c46 => absurd (rfl) c46) (fun c46 => ?_)
  refine fx_aloadn dX6_join_49 rfl ?_
  refine fx_iloadn dX6_join_50 rfl ?_
  refine fx_iconst (nI 1) dX6_join_51 (by decide) ?_
  refine fx_iadd dX6_join_52 ?_
  refine fx_iloadn dX6_join_53 rfl ?_
  rw [nI_add]
  have HA : rt h m pb pf pz pt pp ph pk pc F N B n9 E ((P ++ [x]) ++ y :: A) T th k := H.to (by rw [List.append_assoc]; rfl)
  obtain ⟨fs1, at1⟩ := HA.at
  have hc1 := c_rt_change (g := g) HA r (by rw [List.length_append]; show P.length + 1 < 1002; omega)
  rw [List.length_append] at hc1
  refine fx_callV dX6_join_54 vX6_change kkX6_148 rfl rfl at1 hc1 rfl (by decide) (by decide) (Nat.zero_le _) (Nat.zero_le _) rfl (Nat.le_of_ble_eq_true rfl) (fun r1 h1 hk1 => ?_)
  obtain ⟨rfl, H1, k1⟩ := hk1
  refine fx_goto 69 dX6_join_57 (by decide) ?_
  refine fx_iloadn dX6_join_69 rfl ?_
  refine fx_iconst (nI 4) dX6_join_70 (by decide) ?_
  refine fx_icmp_ge 78 dX6_join_71 (by decide) (fun c71 => ?_) (fun c71 => absurd (by decide) c71)
  refine fx_iloadn dX6_join_78 rfl ?_
  refine fx_bipush (nI 11) dX6_join_79 (by decide) ?_
  refine fx_icmp_ne 90 dX6_join_81 (by decide) (fun c81 => ?_) (fun c81 => absurd c81 (by decide))
  refine fx_iloadn dX6_join_90 rfl ?_
  refine fx_iconst (nI 1) dX6_join_91 (by decide) ?_
  refine fx_iadd dX6_join_92 ?_
  refine fx_iret dX6_join_93 rfl ?_
  refine ⟨?_, H1, k1⟩
  show some (Value.int (nI P.length + nI 1)) = some (Value.int (nI (P ++ [x]).length))
  rw [nI_add, List.length_append]
  rfl
theorem c_rt_join7 {g : fx_G} {h : fx_H} {m pb pf pz pt pp ph pk pc N n9 E k : Nat} {F : Nat → (Nat → Nat) × Nat × Int32} {B : Nat → Nat} {T : Int64} {th : Int32} {P A : List sg} {x y : sg} (H : rt h m pb pf pz pt pp ph pk pc F N B n9 E (P ++ x :: y :: A) T th k) (r : Int32) (hsz : P.length + 1 + (A.length + 1) ≤ 1000) : fx_Met g mX6_join 1 24 [.ref m, .int (nI P.length), .int (nI 7), .int r] h 0 0 (fun q h' => q = some (.int (nI (mz_l 7 r P x y A).1.length)) ∧ rt h' m pb pf pz pt pp ph pk pc F N B n9 E ((mz_l 7 r P x y A).1 ++ (mz_l 7 r P x y A).2.1 :: (mz_l 7 r P x y A).2.2) T th k ∧ kp (rC m pb pf pz pt pp ph pk pc) h h') := by
  refine fx_Met.of rfl (Nat.le_of_ble_eq_true rfl) ?_
  refine fx_iloadn dX6_join_0 rfl ?_
  refine fx_if_ne 19 dX6_join_1 (by decide) (fun c1 => ?_) (fun c1 => absurd c1 (by decide))
  refine fx_iloadn dX6_join_19 rfl ?_
  refine fx_iconst (nI 1) dX6_join_20 (by decide) ?_
  refine fx_icmp_eq 29 dX6_join_21 (by decide) (fun c21 => absurd c21 (by decide)) (fun c21 => ?_)
  refine fx_iloadn dX6_join_24 rfl ?_
  refine fx_iconst (nI 5) dX6_join_25 (by decide) ?_
  refine fx_icmp_ne 38 dX6_join_26 (by decide) (fun c26 => ?_) (fun c26 => absurd c26 (by decide))
  refine fx_iloadn dX6_join_38 rfl ?_
  refine fx_iconst (nI 2) dX6_join_39 (by decide) ?_
  refine fx_icmp_eq 49 dX6_join_40 (by decide) (fun c40 => absurd c40 (by decide)) (fun c40 => ?_)
  refine fx_iloadn dX6_join_43 rfl ?_
  refine fx_bipush (nI 6) dX6_join_44 (by decide) ?_
  refine fx_icmp_ne 60 dX6_join_46 (by decide) (fun c46 => ?_) (fun c46 => absurd c46 (by decide))
  refine fx_aloadn dX6_join_60 rfl ?_
  refine fx_iloadn dX6_join_61 rfl ?_
  refine fx_iconst (nI 1) dX6_join_62 (by decide) ?_
  refine fx_iadd dX6_join_63 ?_
  refine fx_iconst (nI 1) dX6_join_64 (by decide) ?_
  refine fx_iloadn dX6_join_65 rfl ?_
  rw [nI_add]
  have HA : rt h m pb pf pz pt pp ph pk pc F N B n9 E ((P ++ [x]) ++ (y :: A)) T th k := H.to (by rw [List.append_assoc]; rfl)
  obtain ⟨fs1, at1⟩ := HA.at
  have hc1 := c_rt_open (g := g) HA (1, r) (by rw [List.length_append, List.length_append]; show P.length + 1 + (A.length + 1) < 1002; omega)
  rw [List.length_append (as := P)] at hc1
  refine fx_callV dX6_join_66 vX6_open kkX6_156 rfl rfl at1 hc1 rfl (by decide) (by decide) (Nat.zero_le _) (Nat.zero_le _) rfl (Nat.le_of_ble_eq_true rfl) (fun r1 h1 hk1 => ?_)
  obtain ⟨rfl, H1, k1⟩ := hk1
  refine fx_iloadn dX6_join_69 rfl ?_
  refine fx_iconst (nI 4) dX6_join_70 (by decide) ?_
  refine fx_icmp_ge 78 dX6_join_71 (by decide) (fun c71 => ?_) (fun c71 => absurd (by decide) c71)
  refine fx_iloadn dX6_join_78 rfl ?_
  refine fx_bipush (nI 11) dX6_join_79 (by decide) ?_
  refine fx_icmp_ne 90 dX6_join_81 (by decide) (fun c81 => ?_) (fun c81 => absurd c81 (by decide))
  refine fx_iloadn dX6_join_90 rfl ?_
  refine fx_iconst (nI 1) dX6_join_91 (by decide) ?_
  refine fx_iadd dX6_join_92 ?_
  refine fx_iret dX6_join_93 rfl ?_
  refine ⟨?_, H1, k1⟩
  show some (Value.int (nI P.length + nI 1)) = some (Value.int (nI (P ++ [x]).length))
  rw [nI_add, List.length_append]
  rfl
theorem c_rt_join11 {g : fx_G} {h : fx_H} {m pb pf pz pt pp ph pk pc N n9 E k : Nat} {F : Nat → (Nat → Nat) × Nat × Int32} {B : Nat → Nat} {T : Int64} {th : Int32} {P A : List sg} {x y : sg} (H : rt h m pb pf pz pt pp ph pk pc F N B n9 E (P ++ x :: y :: A) T th k) (r : Int32) (hsz : P.length + 1 + (A.length + 1) ≤ 1000) : fx_Met g mX6_join 1 24 [.ref m, .int (nI P.length), .int (nI 11), .int r] h 0 0 (fun q h' => q = some (.int (nI (mz_l 11 r P x y A).1.length)) ∧ rt h' m pb pf pz pt pp ph pk pc F N B n9 E ((mz_l 11 r P x y A).1 ++ (mz_l 11 r P x y A).2.1 :: (mz_l 11 r P x y A).2.2) T th k ∧ kp (rC m pb pf pz pt pp ph pk pc) h h') := by
  refine fx_Met.of rfl (Nat.le_of_ble_eq_true rfl) ?_
  refine fx_iloadn dX6_join_0 rfl ?_
  refine fx_if_ne 19 dX6_join_1 (by decide) (fun c1 => ?_) (fun c1 => absurd c1 (by decide))
  refine fx_iloadn dX6_join_19 rfl ?_
  refine fx_iconst (nI 1) dX6_join_20 (by decide) ?_
  refine fx_icmp_eq 29 dX6_join_21 (by decide) (fun c21 => absurd c21 (by decide)) (fun c21 => ?_)
  refine fx_iloadn dX6_join_24 rfl ?_
  refine fx_iconst (nI 5) dX6_join_25 (by decide) ?_
  refine fx_icmp_ne 38 dX6_join_26 (by decide) (fun c26 => ?_) (fun c26 => absurd c26 (by decide))
  refine fx_iloadn dX6_join_38 rfl ?_
  refine fx_iconst (nI 2) dX6_join_39 (by decide) ?_
  refine fx_icmp_eq 49 dX6_join_40 (by decide) (fun c40 => absurd c40 (by decide)) (fun c40 => ?_)
  refine fx_iloadn dX6_join_43 rfl ?_
  refine fx_bipush (nI 6) dX6_join_44 (by decide) ?_
  refine fx_icmp_ne 60 dX6_join_46 (by decide) (fun c46 => ?_) (fun c46 => absurd c46 (by decide))
  refine fx_aloadn dX6_join_60 rfl ?_
  refine fx_iloadn dX6_join_61 rfl ?_
  refine fx_iconst (nI 1) dX6_join_62 (by decide) ?_
  refine fx_iadd dX6_join_63 ?_
  refine fx_iconst (nI 1) dX6_join_64 (by decide) ?_
  refine fx_iloadn dX6_join_65 rfl ?_
  rw [nI_add]
  have HA : rt h m pb pf pz pt pp ph pk pc F N B n9 E ((P ++ [x]) ++ (y :: A)) T th k := H.to (by rw [List.append_assoc]; rfl)
  obtain ⟨fs1, at1⟩ := HA.at
  have hc1 := c_rt_open (g := g) HA (1, r) (by rw [List.length_append, List.length_append]; show P.length + 1 + (A.length + 1) < 1002; omega)
  rw [List.length_append (as := P)] at hc1
  refine fx_callV dX6_join_66 vX6_open kkX6_156 rfl rfl at1 hc1 rfl (by decide) (by decide) (Nat.zero_le _) (Nat.zero_le _) rfl (Nat.le_of_ble_eq_true rfl) (fun r1 h1 hk1 => ?_)
  obtain ⟨rfl, H1, k1⟩ := hk1
  refine fx_iloadn dX6_join_69 rfl ?_
  refine fx_iconst (nI 4) dX6_join_70 (by decide) ?_
  refine fx_icmp_ge 78 dX6_join_71 (by decide) (fun c71 => ?_) (fun c71 => absurd (by decide) c71)
  refine fx_iloadn dX6_join_78 rfl ?_
  refine fx_bipush (nI 11) dX6_join_79 (by decide) ?_
  refine fx_icmp_ne 90 dX6_join_81 (by decide) (fun c81 => absurd (rfl) c81) (fun c81 => ?_)
  refine fx_iloadn dX6_join_84 rfl ?_
  refine fx_iconst (nI 2) dX6_join_85 (by decide) ?_
  refine fx_iadd dX6_join_86 ?_
  refine fx_goto 93 dX6_join_87 (by decide) ?_
  refine fx_iret dX6_join_93 rfl ?_
  refine ⟨?_, H1.to (by show _ = (P ++ [x, (1, r)]) ++ y :: A; rw [List.append_assoc, List.append_assoc]; rfl), k1⟩
  show some (Value.int (nI P.length + nI 2)) = some (Value.int (nI (P ++ [x, (1, r)]).length))
  rw [nI_add, List.length_append]
  rfl
theorem c_rt_join {g : fx_G} {h : fx_H} {m pb pf pz pt pp ph pk pc N n9 E k : Nat} {F : Nat → (Nat → Nat) × Nat × Int32} {B : Nat → Nat} {T : Int64} {th : Int32} {P A : List sg} {x y : sg} (H : rt h m pb pf pz pt pp ph pk pc F N B n9 E (P ++ x :: y :: A) T th k) (o : Nat) (ho : ml_lig o) (r : Int32) (hsz : P.length + 1 + (A.length + 1) ≤ 1000) : fx_Met g mX6_join 1 24 [.ref m, .int (nI P.length), .int (nI o), .int r] h 0 0 (fun q h' => q = some (.int (nI (mz_l o r P x y A).1.length)) ∧ rt h' m pb pf pz pt pp ph pk pc F N B n9 E ((mz_l o r P x y A).1 ++ (mz_l o r P x y A).2.1 :: (mz_l o r P x y A).2.2) T th k ∧ kp (rC m pb pf pz pt pp ph pk pc) h h') := by
  have h9 : o = 0 ∨ o = 1 ∨ o = 2 ∨ o = 3 ∨ o = 5 ∨ o = 6 ∨ o = 7 ∨ o = 11 := by
    unfold ml_lig at ho
    omega
  rcases h9 with rfl | rfl | rfl | rfl | rfl | rfl | rfl | rfl
  · exact c_rt_join0 H r hsz
  · exact c_rt_join1 H r hsz
  · exact c_rt_join2 H r hsz
  · exact c_rt_join3 H r hsz
  · exact c_rt_join5 H r hsz
  · exact c_rt_join6 H r hsz
  · exact c_rt_join7 H r hsz
  · exact c_rt_join11 H r hsz
