/-! FontDeskModel: faultOf(), and that its fault is the class's -/
theorem pigeon : ∀ (n : Nat) (f : Nat → Nat), (∀ i, i ≤ n → f i < n) → ∃ i j, i < j ∧ j ≤ n ∧ f i = f j := by
  intro n
  induction n with
  | zero => intro f h; exact absurd (h 0 (Nat.le_refl _)) (Nat.not_lt_zero _)
  | succ n ih =>
    intro f h
    by_cases q : ∃ i, i ≤ n ∧ f i = f (n + 1)
    · obtain ⟨i, hi, e⟩ := q
      exact ⟨i, n + 1, by omega, Nat.le_refl _, e⟩
    · have hv := h (n + 1) (Nat.le_refl _)
      have hne : ∀ i, i ≤ n → f i ≠ f (n + 1) := fun i hi e => q ⟨i, hi, e⟩
      obtain ⟨i, j, h1, h2, h3⟩ := ih (fun i => if f i < f (n + 1) then f i else f i - 1) (fun i hi => by
        have h4 := h i (by omega)
        have h5 := hne i hi
        show (if f i < f (n + 1) then f i else f i - 1) < n
        split <;> omega)
      refine ⟨i, j, h1, by omega, ?_⟩
      have h4 := hne i (by omega)
      have h5 := hne j h2
      have h6 : (if f i < f (n + 1) then f i else f i - 1) = (if f j < f (n + 1) then f j else f j - 1) := h3
      split at h6 <;> split at h6 <;> omega
def ml_it (b : Nat → Nat) : Nat → Nat → Nat
  | 0, x => x
  | k + 1, x => ml_it b k (ml_rest b (nI x))
theorem it_add {b : Nat → Nat} : ∀ (i j x : Nat), ml_it b j (ml_it b i x) = ml_it b (i + j) x := by
  intro i
  induction i with
  | zero => intro j x; rw [Nat.zero_add]; rfl
  | succ i ih =>
    intro j x
    rw [show i + 1 + j = i + j + 1 by omega]
    show ml_it b j (ml_it b i (ml_rest b (nI x))) = ml_it b (i + j) (ml_rest b (nI x))
    exact ih j _
theorem it_lt {b : Nat → Nat} : ∀ (k x : Nat), x < 256 → ml_it b k x < 256 := by
  intro k
  induction k with
  | zero => intro x h; exact h
  | succ k ih => intro x h; exact ih _ (ml_rest_lt _)
theorem ce_re {b : Nat → Nat} {c : Nat} : ∀ (n m y : Nat), y ≠ c → ml_ce b c n y → ml_re b c m y := by
  intro n
  induction n with
  | zero => intro m y _ h; exact h.elim
  | succ n ih =>
    intro m y hy h
    cases m with
    | zero => trivial
    | succ m =>
      unfold ml_re
      unfold ml_ce at h
      rw [if_neg hy]
      by_cases e : ml_tag b (nI y) = 2
      · rw [if_pos e] at h ⊢
        by_cases e2 : ml_rest b (nI y) = c
        · rw [if_pos e2] at h
          exact h.elim
        · rw [if_neg e2] at h
          exact ih m _ e2 h
      · rw [if_neg e]
        trivial
theorem ce_not {b : Nat → Nat} {c : Nat} : ∀ (n x : Nat), ¬ ml_ce b c n x → (∃ k, k < n ∧ (∀ j, j ≤ k → ml_tag b (nI (ml_it b j x)) = 2) ∧ ml_it b (k + 1) x = c) ∨ ∀ j, j < n → ml_tag b (nI (ml_it b j x)) = 2 := by
  intro n
  induction n with
  | zero => intro x _; exact Or.inr (fun j hj => absurd hj (Nat.not_lt_zero _))
  | succ n ih =>
    intro x h
    unfold ml_ce at h
    by_cases e : ml_tag b (nI x) = 2
    · rw [if_pos e] at h
      by_cases e2 : ml_rest b (nI x) = c
      · exact Or.inl ⟨0, by omega, fun j hj => by rw [show j = 0 by omega]; exact e, e2⟩
      · rw [if_neg e2] at h
        rcases ih _ h with ⟨k, h1, h2, h3⟩ | h1
        · refine Or.inl ⟨k + 1, by omega, fun j hj => ?_, h3⟩
          cases j with
          | zero => exact e
          | succ j => exact h2 j (by omega)
        · refine Or.inr (fun j hj => ?_)
          cases j with
          | zero => exact e
          | succ j => exact h1 j (by omega)
    · rw [if_neg e] at h
      exact absurd trivial h
theorem re_not {b : Nat → Nat} {d : Nat} : ∀ (k n y : Nat), k < n → ml_it b k y = d → (∀ j, j < k → ml_tag b (nI (ml_it b j y)) = 2) → ¬ ml_re b d n y := by
  intro k
  induction k with
  | zero =>
    intro n y hk h1 _
    cases n with
    | zero => omega
    | succ n =>
      unfold ml_re
      rw [if_pos (show y = d from h1)]
      exact fun q => q
  | succ k ih =>
    intro n y hk h1 h2
    cases n with
    | zero => omega
    | succ n =>
      unfold ml_re
      split
      · exact fun q => q
      · rw [if_pos (show ml_tag b (nI y) = 2 from h2 0 (by omega))]
        exact ih n _ (by omega) h1 (fun j hj => h2 (j + 1) (by omega))
theorem f3_same {b : Nat → Nat} : ml_f3C b ↔ ∀ c, c < 256 → ml_giR b c := by
  constructor
  · intro h c hc h0
    obtain ⟨h1, h2, h3, h4⟩ := h c hc h0
    refine ⟨h1, h2, fun ht => ?_, h4⟩
    obtain ⟨h5, h6⟩ := h3 ht
    have h7 : ml_rest b (nI c) ≠ c ∧ ml_ce b c 255 (ml_rest b (nI c)) := by
      unfold ml_ce at h6
      rw [if_pos ht] at h6
      by_cases e : ml_rest b (nI c) = c
      · rw [if_pos e] at h6
        exact h6.elim
      · rw [if_neg e] at h6
        exact ⟨e, h6⟩
    exact ⟨h7.1, h5, ce_re _ _ _ h7.1 h7.2⟩
  · intro h c hc h0
    obtain ⟨h1, h2, h3, h4⟩ := h c hc h0
    refine ⟨h1, h2, fun ht => ⟨(h3 ht).2.1, Classical.byContradiction fun hce => ?_⟩, h4⟩
    have key : ∀ d, d < 256 → ∀ k, k < 256 → (∀ j, j ≤ k → ml_tag b (nI (ml_it b j d)) = 2) → ml_it b (k + 1) d = d → False := fun d hd k hk ht2 hit => by
      have htd := ht2 0 (by omega)
      have hid := ml_tag_there (b := b) (c := d) (by omega) (by show ml_tag b (nI (ml_it b 0 d)) ≠ 0; rw [htd]; decide)
      obtain ⟨-, -, hr, -⟩ := h d hd hid
      exact re_not k 256 (ml_rest b (nI d)) hk hit (fun j hj => ht2 (j + 1) (by omega)) (hr htd).2.2
    rcases ce_not 256 c hce with ⟨k, hk, ht2, hit⟩ | hall
    · exact key c hc k hk ht2 hit
    · obtain ⟨i, j, hij, hj, e⟩ := pigeon 256 (fun k => ml_it b k c) (fun i _ => it_lt i c hc)
      have e2 : ml_it b i c = ml_it b j c := e
      refine key (ml_it b i c) (it_lt i c hc) (j - i - 1) (by omega) (fun q hq => ?_) ?_
      · rw [it_add]
        exact hall _ (by omega)
      · rw [it_add, show i + (j - i - 1 + 1) = j by omega, e2]
noncomputable def ml_fa (b : Nat → Nat) (nb : Nat) : Nat := @ite _ (ml_f1 b nb) (Classical.propDecidable _) (if ml_ftC b = 0 then @ite _ (ml_f7 b) (Classical.propDecidable _) 0 7 else ml_ftC b) 1
theorem f3_a {b : Nat → Nat} (h : ml_f3C b) : ml_F3a b := fun c hc ht => (h c hc (ml_tag_there (by omega) (by rw [ht]; decide))).2.1 ht
theorem bI_or {p : Prop} : (p ∧ bI p = nI 1) ∨ (¬ p ∧ bI p = nI 0) := by
  by_cases q : p
  · exact Or.inl ⟨q, bI_t q⟩
  · exact Or.inr ⟨q, bI_f q⟩

theorem l_rf_fo1 {g : fx_G} {h : fx_H} {a lim nw cu su : Nat} {b : Nat → Nat} (D : rd h a b lim) (V : ml_v b nw) (hl : 4 * nw ≤ lim) (K : Option Value → fx_H → Prop) (J : ∀ lv : List (Nat × Value), fx_le [(0, .ref a), (1, .int (bI (∀ j, ml_H b 2 ≤ j → j < (ml_H b 3 + 1) → ml_giR b j)))] lv → fx_Y g mX6_faultOf 10 224 K (fun _ _ => False) 55 lv [] h cu su) : ∀ n k : Nat, ml_H b 2 ≤ k → k + n = (ml_H b 3 + 1) → fx_Y g mX6_faultOf 10 224 K (fun _ _ => False) 30 [(0, .ref a), (1, .int (bI (∀ j, ml_H b 2 ≤ j → j < k → ml_giR b j))), (2, .int (nI k))] [] h cu su := by
  obtain ⟨fs, h1⟩ := D.at
  have hs := V.six
  have w3 := V.w.2.1 3 (by decide)
  have w8 := V.w.2.1 8 (by decide)
  have w10 := V.w.2.1 10 (by decide)
  have q3 : ml_H b 3 ≤ 255 := V.2.2.2.2.2.2.2.1
  have e6 : ml_rl b 6 = ml_H b 8 := rfl
  have e8 : ml_rl b 8 = ml_H b 10 := rfl
  intro n
  induction n using Nat.strongRecOn with
  | ind n ih =>
  intro k hk0 hn
  by_cases hn0 : n = 0
  · skip
    refine fx_iloadn dX6_faultOf_30 rfl ?_
    refine fx_aloadn dX6_faultOf_31 rfl ?_
    refine fx_iconst (nI 3) dX6_faultOf_32 (by decide) ?_
    refine fx_callVp dX6_faultOf_33 vX6_half kkX6_57 rfl rfl (by assumption) (p_rf_half D 3 (by omega)) rfl (by decide) (by decide) rfl (Nat.le_of_ble_eq_true rfl) ?_
    refine fx_icmp_gt 55 dX6_faultOf_36 (by decide) (fun c36 => ?_) (fun c36 => absurd (nI_lt (show ml_H b 3 < k by omega) (by omega)) c36)
    have hk9 : k = (ml_H b 3 + 1) := by omega
    subst hk9
    exact J _ ⟨rfl, rfl, trivial⟩
  · by_cases hg : ∀ j, ml_H b 2 ≤ j → j < k → ml_giR b j
    · skip
      refine fx_iloadn dX6_faultOf_30 rfl ?_
      refine fx_aloadn dX6_faultOf_31 rfl ?_
      refine fx_iconst (nI 3) dX6_faultOf_32 (by decide) ?_
      refine fx_callVp dX6_faultOf_33 vX6_half kkX6_57 rfl rfl (by assumption) (p_rf_half D 3 (by omega)) rfl (by decide) (by decide) rfl (Nat.le_of_ble_eq_true rfl) ?_
      refine fx_icmp_gt 55 dX6_faultOf_36 (by decide) (fun c36 => absurd c36 (nI_nlt (show k ≤ ml_H b 3 by omega) (by omega))) (fun c36 => ?_)
      refine fx_iloadn dX6_faultOf_39 rfl ?_
      refine fx_if_eq 55 dX6_faultOf_40 (by decide) (fun c40 => absurd c40 (by rw [bI_t hg]; decide)) (fun c40 => ?_)
      refine fx_aloadn dX6_faultOf_43 rfl ?_
      refine fx_iloadn dX6_faultOf_44 rfl ?_
      refine fx_callVp dX6_faultOf_45 vX6_goodInfo kkX6_111 rfl rfl (by assumption) (p_rf_goodInfo D V hl k (by omega)) rfl (by decide) (by decide) rfl (Nat.le_of_ble_eq_true rfl) ?_
      refine fx_istoren dX6_faultOf_48 (by decide) ?_
      refine fx_iinc (nI 1) dX6_faultOf_49 rfl (by decide) (by decide) ?_
      refine fx_goto 30 dX6_faultOf_52 (by decide) ?_
      simp only [nI_add]
      refine fx_to (ih (n - 1) (by omega) (k + 1) (by omega) (by omega)) ⟨rfl, ?_, rfl, trivial⟩
      show some (Value.int _) = some (Value.int _)
      refine congrArg (fun x => some (Value.int x)) (bI_c ⟨fun q j h1 h2 => ?_, fun q => q k (by omega) (by omega)⟩)
      by_cases e : j = k
      · rw [e]
        exact q
      · exact hg j h1 (by omega)
    · skip
      refine fx_iloadn dX6_faultOf_30 rfl ?_
      refine fx_aloadn dX6_faultOf_31 rfl ?_
      refine fx_iconst (nI 3) dX6_faultOf_32 (by decide) ?_
      refine fx_callVp dX6_faultOf_33 vX6_half kkX6_57 rfl rfl (by assumption) (p_rf_half D 3 (by omega)) rfl (by decide) (by decide) rfl (Nat.le_of_ble_eq_true rfl) ?_
      refine fx_icmp_gt 55 dX6_faultOf_36 (by decide) (fun c36 => absurd c36 (nI_nlt (show k ≤ ml_H b 3 by omega) (by omega))) (fun c36 => ?_)
      refine fx_iloadn dX6_faultOf_39 rfl ?_
      refine fx_if_eq 55 dX6_faultOf_40 (by decide) (fun c40 => ?_) (fun c40 => absurd (bI_0.mpr hg) c40)
      refine J _ ⟨rfl, ?_, trivial⟩
      show some (Value.int _) = _
      rw [bI_f hg, bI_f (fun q => hg (fun j h1 h2 => q j h1 (by omega)))]
theorem l_rf_fo2 {g : fx_G} {h : fx_H} {a lim nw cu su : Nat} {b : Nat → Nat} (D : rd h a b lim) (V : ml_v b nw) (hl : 4 * nw ≤ lim) (K : Option Value → fx_H → Prop) (J : ∀ lv : List (Nat × Value), fx_le [(0, .ref a), (1, .int (bI (∀ j, 0 ≤ j → j < (ml_rl b 6) → ml_stp b j)))] lv → fx_Y g mX6_faultOf 10 224 K (fun _ _ => False) 98 lv [] h cu su) : ∀ n k : Nat, 0 ≤ k → k + n = (ml_rl b 6) → fx_Y g mX6_faultOf 10 224 K (fun _ _ => False) 72 [(0, .ref a), (1, .int (bI (∀ j, 0 ≤ j → j < k → ml_stp b j))), (2, .int (nI k))] [] h cu su := by
  obtain ⟨fs, h1⟩ := D.at
  have hs := V.six
  have w3 := V.w.2.1 3 (by decide)
  have w8 := V.w.2.1 8 (by decide)
  have w10 := V.w.2.1 10 (by decide)
  have q3 : ml_H b 3 ≤ 255 := V.2.2.2.2.2.2.2.1
  have e6 : ml_rl b 6 = ml_H b 8 := rfl
  have e8 : ml_rl b 8 = ml_H b 10 := rfl
  intro n
  induction n using Nat.strongRecOn with
  | ind n ih =>
  intro k hk0 hn
  by_cases hn0 : n = 0
  · skip
    refine fx_iloadn dX6_faultOf_72 rfl ?_
    refine fx_aloadn dX6_faultOf_73 rfl ?_
    refine fx_bipush (nI 8) dX6_faultOf_74 (by decide) ?_
    refine fx_callVp dX6_faultOf_76 vX6_half kkX6_57 rfl rfl (by assumption) (p_rf_half D 8 (by omega)) rfl (by decide) (by decide) rfl (Nat.le_of_ble_eq_true rfl) ?_
    refine fx_icmp_ge 98 dX6_faultOf_79 (by decide) (fun c79 => ?_) (fun c79 => absurd (nI_le (by omega) (by omega)) c79)
    have hk9 : k = (ml_rl b 6) := by omega
    subst hk9
    exact J _ ⟨rfl, rfl, trivial⟩
  · by_cases hg : ∀ j, 0 ≤ j → j < k → ml_stp b j
    · skip
      refine fx_iloadn dX6_faultOf_72 rfl ?_
      refine fx_aloadn dX6_faultOf_73 rfl ?_
      refine fx_bipush (nI 8) dX6_faultOf_74 (by decide) ?_
      refine fx_callVp dX6_faultOf_76 vX6_half kkX6_57 rfl rfl (by assumption) (p_rf_half D 8 (by omega)) rfl (by decide) (by decide) rfl (Nat.le_of_ble_eq_true rfl) ?_
      refine fx_icmp_ge 98 dX6_faultOf_79 (by decide) (fun c79 => absurd c79 (nI_ge (show k < ml_H b 8 by omega) (by omega))) (fun c79 => ?_)
      refine fx_iloadn dX6_faultOf_82 rfl ?_
      refine fx_if_eq 98 dX6_faultOf_83 (by decide) (fun c83 => absurd c83 (by rw [bI_t hg]; decide)) (fun c83 => ?_)
      refine fx_aloadn dX6_faultOf_86 rfl ?_
      refine fx_iloadn dX6_faultOf_87 rfl ?_
      refine fx_callVp dX6_faultOf_88 vX6_goodStep kkX6_117 rfl rfl (by assumption) (p_rf_goodStep D V hl k (by omega)) rfl (by decide) (by decide) rfl (Nat.le_of_ble_eq_true rfl) ?_
      refine fx_istoren dX6_faultOf_91 (by decide) ?_
      refine fx_iinc (nI 1) dX6_faultOf_92 rfl (by decide) (by decide) ?_
      refine fx_goto 72 dX6_faultOf_95 (by decide) ?_
      simp only [nI_add]
      refine fx_to (ih (n - 1) (by omega) (k + 1) (by omega) (by omega)) ⟨rfl, ?_, rfl, trivial⟩
      show some (Value.int _) = some (Value.int _)
      refine congrArg (fun x => some (Value.int x)) (bI_c ⟨fun q j h1 h2 => ?_, fun q => q k (by omega) (by omega)⟩)
      by_cases e : j = k
      · rw [e]
        exact q
      · exact hg j h1 (by omega)
    · skip
      refine fx_iloadn dX6_faultOf_72 rfl ?_
      refine fx_aloadn dX6_faultOf_73 rfl ?_
      refine fx_bipush (nI 8) dX6_faultOf_74 (by decide) ?_
      refine fx_callVp dX6_faultOf_76 vX6_half kkX6_57 rfl rfl (by assumption) (p_rf_half D 8 (by omega)) rfl (by decide) (by decide) rfl (Nat.le_of_ble_eq_true rfl) ?_
      refine fx_icmp_ge 98 dX6_faultOf_79 (by decide) (fun c79 => absurd c79 (nI_ge (show k < ml_H b 8 by omega) (by omega))) (fun c79 => ?_)
      refine fx_iloadn dX6_faultOf_82 rfl ?_
      refine fx_if_eq 98 dX6_faultOf_83 (by decide) (fun c83 => ?_) (fun c83 => absurd (bI_0.mpr hg) c83)
      refine J _ ⟨rfl, ?_, trivial⟩
      show some (Value.int _) = _
      rw [bI_f hg, bI_f (fun q => hg (fun j h1 h2 => q j h1 (by omega)))]
theorem l_rf_fo3 {g : fx_G} {h : fx_H} {a lim nw cu su : Nat} {b : Nat → Nat} (D : rd h a b lim) (V : ml_v b nw) (hl : 4 * nw ≤ lim) (K : Option Value → fx_H → Prop) (J : ∀ lv : List (Nat × Value), fx_le [(0, .ref a), (1, .int (bI (∀ j, 0 ≤ j → j < (ml_rl b 8) → ml_pc b j)))] lv → fx_Y g mX6_faultOf 10 224 K (fun _ _ => False) 132 lv [] h cu su) : ∀ n k : Nat, 0 ≤ k → k + n = (ml_rl b 8) → fx_Y g mX6_faultOf 10 224 K (fun _ _ => False) 106 [(0, .ref a), (1, .int (bI (∀ j, 0 ≤ j → j < k → ml_pc b j))), (2, .int (nI k))] [] h cu su := by
  obtain ⟨fs, h1⟩ := D.at
  have hs := V.six
  have w3 := V.w.2.1 3 (by decide)
  have w8 := V.w.2.1 8 (by decide)
  have w10 := V.w.2.1 10 (by decide)
  have q3 : ml_H b 3 ≤ 255 := V.2.2.2.2.2.2.2.1
  have e6 : ml_rl b 6 = ml_H b 8 := rfl
  have e8 : ml_rl b 8 = ml_H b 10 := rfl
  intro n
  induction n using Nat.strongRecOn with
  | ind n ih =>
  intro k hk0 hn
  by_cases hn0 : n = 0
  · skip
    refine fx_iloadn dX6_faultOf_106 rfl ?_
    refine fx_aloadn dX6_faultOf_107 rfl ?_
    refine fx_bipush (nI 10) dX6_faultOf_108 (by decide) ?_
    refine fx_callVp dX6_faultOf_110 vX6_half kkX6_57 rfl rfl (by assumption) (p_rf_half D 10 (by omega)) rfl (by decide) (by decide) rfl (Nat.le_of_ble_eq_true rfl) ?_
    refine fx_icmp_ge 132 dX6_faultOf_113 (by decide) (fun c113 => ?_) (fun c113 => absurd (nI_le (by omega) (by omega)) c113)
    have hk9 : k = (ml_rl b 8) := by omega
    subst hk9
    exact J _ ⟨rfl, rfl, trivial⟩
  · by_cases hg : ∀ j, 0 ≤ j → j < k → ml_pc b j
    · skip
      refine fx_iloadn dX6_faultOf_106 rfl ?_
      refine fx_aloadn dX6_faultOf_107 rfl ?_
      refine fx_bipush (nI 10) dX6_faultOf_108 (by decide) ?_
      refine fx_callVp dX6_faultOf_110 vX6_half kkX6_57 rfl rfl (by assumption) (p_rf_half D 10 (by omega)) rfl (by decide) (by decide) rfl (Nat.le_of_ble_eq_true rfl) ?_
      refine fx_icmp_ge 132 dX6_faultOf_113 (by decide) (fun c113 => absurd c113 (nI_ge (show k < ml_H b 10 by omega) (by omega))) (fun c113 => ?_)
      refine fx_iloadn dX6_faultOf_116 rfl ?_
      refine fx_if_eq 132 dX6_faultOf_117 (by decide) (fun c117 => absurd c117 (by rw [bI_t hg]; decide)) (fun c117 => ?_)
      refine fx_aloadn dX6_faultOf_120 rfl ?_
      refine fx_iloadn dX6_faultOf_121 rfl ?_
      refine fx_callVp dX6_faultOf_122 vX6_goodPiece kkX6_120 rfl rfl (by assumption) (p_rf_goodPiece D V hl k (by omega)) rfl (by decide) (by decide) rfl (Nat.le_of_ble_eq_true rfl) ?_
      refine fx_istoren dX6_faultOf_125 (by decide) ?_
      refine fx_iinc (nI 1) dX6_faultOf_126 rfl (by decide) (by decide) ?_
      refine fx_goto 106 dX6_faultOf_129 (by decide) ?_
      simp only [nI_add]
      refine fx_to (ih (n - 1) (by omega) (k + 1) (by omega) (by omega)) ⟨rfl, ?_, rfl, trivial⟩
      show some (Value.int _) = some (Value.int _)
      refine congrArg (fun x => some (Value.int x)) (bI_c ⟨fun q j h1 h2 => ?_, fun q => q k (by omega) (by omega)⟩)
      by_cases e : j = k
      · rw [e]
        exact q
      · exact hg j h1 (by omega)
    · skip
      refine fx_iloadn dX6_faultOf_106 rfl ?_
      refine fx_aloadn dX6_faultOf_107 rfl ?_
      refine fx_bipush (nI 10) dX6_faultOf_108 (by decide) ?_
      refine fx_callVp dX6_faultOf_110 vX6_half kkX6_57 rfl rfl (by assumption) (p_rf_half D 10 (by omega)) rfl (by decide) (by decide) rfl (Nat.le_of_ble_eq_true rfl) ?_
      refine fx_icmp_ge 132 dX6_faultOf_113 (by decide) (fun c113 => absurd c113 (nI_ge (show k < ml_H b 10 by omega) (by omega))) (fun c113 => ?_)
      refine fx_iloadn dX6_faultOf_116 rfl ?_
      refine fx_if_eq 132 dX6_faultOf_117 (by decide) (fun c117 => ?_) (fun c117 => absurd (bI_0.mpr hg) c117)
      refine J _ ⟨rfl, ?_, trivial⟩
      show some (Value.int _) = _
      rw [bI_f hg, bI_f (fun q => hg (fun j h1 h2 => q j h1 (by omega)))]
theorem i_nle {x y : Int32} (h : x < y) : ¬ y ≤ x := Int32.not_le.mpr h
theorem i_le {x y : Int32} (h : ¬ x < y) : y ≤ x := Int32.not_lt.mp h
theorem l_rf_fo55 {g : fx_G} {h : fx_H} {a pt pp ph nb : Nat} {b : Nat → Nat} (hb : ∀ i, b i < 256) (N : pt ≠ pp) (HR : ∀ h', kp (rS pt pp ph) h h' → rg h' a b nb) {ft fp fh : Nat → Int32} (E : ra h a pt pp ph ft fp fh) (G9 : rg h a b nb) {nw : Nat} (V : ml_v b nw) (hl : 4 * nw ≤ nb) (hf1 : ml_f1 b nb) (h2 : ¬ nI (ml_e b 0 1) < nI 1048576) : fx_Y g mX6_faultOf 10 224 (fun r h' => r = some (.int (nI (ml_fa b nb))) ∧ ∃ ft fp fh, ra h' a pt pp ph ft fp fh ∧ kp (rS pt pp ph) h h') (fun _ _ => False) 55 [(0, .ref a), (1, .int (bI (ml_f3C b)))] [] h 0 0 := by
  have D := G9.rd
  obtain ⟨F, g1, g8, g9, g10, t1, t2, t3⟩ := id E
  have hfa : ml_fa b nb = if ml_ftC b = 0 then @ite _ (ml_f7 b) (Classical.propDecidable _) 0 7 else ml_ftC b := by
    unfold ml_fa
    rw [if_pos hf1]
  have hftC : ml_ftC b = @ite _ (nI (ml_e b 0 1) < nI 1048576) (Classical.propDecidable _) 2 (@ite _ (ml_f3C b) (Classical.propDecidable _) (@ite _ (ml_f4 b) (Classical.propDecidable _) (@ite _ (ml_f5 b) (Classical.propDecidable _) (@ite _ (ml_f6 b) (Classical.propDecidable _) 0 6) 5) 4) 3) := rfl
  by_cases h3 : ml_f3C b
  · by_cases h4 : ml_f4 b
    · skip
      refine fx_iloadn dX6_faultOf_55 rfl ?_
      refine fx_if_ne 61 dX6_faultOf_56 (by decide) (fun c56 => ?_) (fun c56 => absurd c56 (bI_n0.mpr h3))
      refine fx_aloadn dX6_faultOf_61 rfl ?_
      refine fx_callVp dX6_faultOf_62 vX6_goodFractions kkX6_114 rfl rfl (by assumption) (p_rf_goodFractions D V hl) rfl (by decide) (by decide) rfl (Nat.le_of_ble_eq_true rfl) ?_
      refine fx_if_ne 70 dX6_faultOf_65 (by decide) (fun c65 => ?_) (fun c65 => absurd c65 (bI_n0.mpr h4))
      refine fx_iconst (nI 0) dX6_faultOf_70 (by decide) ?_
      refine fx_istoren dX6_faultOf_71 (by decide) ?_
      refine fx_to (l_rf_fo2 D V hl _ (fun lv hlv => ?_) (ml_rl b 6) 0 (Nat.le_refl _) (by omega)) ⟨rfl, by rw [bI_t h3, bI_t (fun j h1 h2 => by omega)]; rfl, rfl, trivial⟩
      refine fx_sub _ hlv ?_
      have h5i : (∀ j, 0 ≤ j → j < ml_rl b 6 → ml_stp b j) ↔ ml_f5 b := ⟨fun q j h1 => q j (Nat.zero_le _) h1, fun q j _ h1 => q j h1⟩
      rw [bI_c h5i]
      by_cases h5 : ml_f5 b
      · skip
        refine fx_iloadn dX6_faultOf_98 rfl ?_
        refine fx_if_ne 104 dX6_faultOf_99 (by decide) (fun c99 => ?_) (fun c99 => absurd c99 (bI_n0.mpr h5))
        refine fx_iconst (nI 0) dX6_faultOf_104 (by decide) ?_
        refine fx_istoren dX6_faultOf_105 (by decide) ?_
        refine fx_to (l_rf_fo3 D V hl _ (fun lv hlv => ?_) (ml_rl b 8) 0 (Nat.le_refl _) (by omega)) ⟨rfl, by rw [bI_t h5, bI_t (fun j h1 h2 => by omega)]; rfl, rfl, trivial⟩
        refine fx_sub _ hlv ?_
        have h6i : (∀ j, 0 ≤ j → j < ml_rl b 8 → ml_pc b j) ↔ ml_f6 b := ⟨fun q j h1 => q j (Nat.zero_le _) h1, fun q j _ h1 => q j h1⟩
        rw [bI_c h6i]
        by_cases h6 : ml_f6 b
        · skip
          refine fx_iloadn dX6_faultOf_132 rfl ?_
          refine fx_if_ne 141 dX6_faultOf_133 (by decide) (fun c133 => ?_) (fun c133 => absurd c133 (bI_n0.mpr h6))
          refine fx_aloadn dX6_faultOf_141 rfl ?_
          refine fx_callV dX6_faultOf_142 vX6_allEnd kkX6_123 rfl rfl g1 (c_rf_allEnd V hl (f3_a h3) h5 N (fun h' q => (HR h' q).rd) E) rfl (by decide) (by decide) (Nat.zero_le _) (Nat.zero_le _) rfl (Nat.le_of_ble_eq_true rfl) (fun r h2' hk2 => ?_)
          obtain ⟨rfl, ft2, fp2, fh2, E2, hk3⟩ := hk2
          show fx_Y _ _ _ _ _ _ _ _ [.int (bI (ml_f7 b))] _ _ _
          refine fx_if_eqB 152 dX6_faultOf_145 (by decide) (fun c145 => ?_) (fun c145 => ?_)
          · skip
            refine fx_bipush (nI 7) dX6_faultOf_152 (by decide) ?_
            refine fx_iret dX6_faultOf_154 rfl ?_
            refine ⟨?_, ft2, fp2, fh2, E2, hk3⟩
            rw [hfa, hftC, if_neg h2, if_pos h3, if_pos h4, if_pos h5, if_pos h6, if_pos rfl, if_neg c145]
          · skip
            refine fx_iconst (nI 0) dX6_faultOf_148 (by decide) ?_
            refine fx_goto 154 dX6_faultOf_149 (by decide) ?_
            refine fx_iret dX6_faultOf_154 rfl ?_
            refine ⟨?_, ft2, fp2, fh2, E2, hk3⟩
            rw [hfa, hftC, if_neg h2, if_pos h3, if_pos h4, if_pos h5, if_pos h6, if_pos rfl, if_pos c145]
        · skip
          refine fx_iloadn dX6_faultOf_132 rfl ?_
          refine fx_if_ne 141 dX6_faultOf_133 (by decide) (fun c133 => absurd (bI_0.mpr h6) c133) (fun c133 => ?_)
          refine fx_bipush (nI 6) dX6_faultOf_136 (by decide) ?_
          refine fx_goto 154 dX6_faultOf_138 (by decide) ?_
          refine fx_iret dX6_faultOf_154 rfl ?_
          exact ⟨by rw [hfa, hftC, if_neg h2, if_pos h3, if_pos h4, if_pos h5, if_neg h6]; rfl, ft, fp, fh, E, kp.rf⟩
      · skip
        refine fx_iloadn dX6_faultOf_98 rfl ?_
        refine fx_if_ne 104 dX6_faultOf_99 (by decide) (fun c99 => absurd (bI_0.mpr h5) c99) (fun c99 => ?_)
        refine fx_iconst (nI 5) dX6_faultOf_102 (by decide) ?_
        refine fx_iret dX6_faultOf_103 rfl ?_
        exact ⟨by rw [hfa, hftC, if_neg h2, if_pos h3, if_pos h4, if_neg h5]; rfl, ft, fp, fh, E, kp.rf⟩
    · skip
      refine fx_iloadn dX6_faultOf_55 rfl ?_
      refine fx_if_ne 61 dX6_faultOf_56 (by decide) (fun c56 => ?_) (fun c56 => absurd c56 (bI_n0.mpr h3))
      refine fx_aloadn dX6_faultOf_61 rfl ?_
      refine fx_callVp dX6_faultOf_62 vX6_goodFractions kkX6_114 rfl rfl (by assumption) (p_rf_goodFractions D V hl) rfl (by decide) (by decide) rfl (Nat.le_of_ble_eq_true rfl) ?_
      refine fx_if_ne 70 dX6_faultOf_65 (by decide) (fun c65 => absurd (bI_0.mpr h4) c65) (fun c65 => ?_)
      refine fx_iconst (nI 4) dX6_faultOf_68 (by decide) ?_
      refine fx_iret dX6_faultOf_69 rfl ?_
      exact ⟨by rw [hfa, hftC, if_neg h2, if_pos h3, if_neg h4]; rfl, ft, fp, fh, E, kp.rf⟩
  · skip
    refine fx_iloadn dX6_faultOf_55 rfl ?_
    refine fx_if_ne 61 dX6_faultOf_56 (by decide) (fun c56 => absurd (bI_0.mpr h3) c56) (fun c56 => ?_)
    refine fx_iconst (nI 3) dX6_faultOf_59 (by decide) ?_
    refine fx_iret dX6_faultOf_60 rfl ?_
    exact ⟨by rw [hfa, hftC, if_neg h2, if_neg h3]; rfl, ft, fp, fh, E, kp.rf⟩
theorem c_rf_faultOf {g : fx_G} {h : fx_H} {a pt pp ph nb : Nat} {b : Nat → Nat} (hb : ∀ i, b i < 256) (N : pt ≠ pp) (HR : ∀ h', kp (rS pt pp ph) h h' → rg h' a b nb) {ft fp fh : Nat → Int32} (E : ra h a pt pp ph ft fp fh) : fx_Met g mX6_faultOf 10 224 [.ref a] h 0 0 (fun r h' => r = some (.int (nI (ml_fa b nb))) ∧ ∃ ft fp fh, ra h' a pt pp ph ft fp fh ∧ kp (rS pt pp ph) h h') := by
  have G9 := HR h kp.rf
  have D := G9.rd
  obtain ⟨F, g1, g8, g9, g10, t1, t2, t3⟩ := id E
  refine fx_Met.of rfl (Nat.le_of_ble_eq_true rfl) ?_
  by_cases hf1 : ml_f1 b nb
  · obtain ⟨f24, f4⟩ := id hf1
    have hH0 : nb = 4 * ml_H b 0 := f4.1
    have V : ml_v b (ml_H b 0) := ⟨hb, by rw [← hH0]; exact hf1⟩
    have hl : 4 * ml_H b 0 ≤ nb := by omega
    have w2 := V.w.2.2
    have hq3 : ml_H b 3 ≤ 255 := V.2.2.2.2.2.2.2.1
    have hq1 : 2 ≤ ml_H b 1 := V.2.2.2.2.1
    have hq0 : 6 + ml_H b 1 ≤ ml_H b 0 := V.row (r := 0) (by decide)
    have hw7 : ml_W b 7 = ml_e b 0 1 := by
      have h1 : 2 ≤ ml_H b 1 := V.2.2.2.2.1
      unfold ml_e
      rw [if_pos (show 1 < ml_rl b 0 by show 1 < ml_H b 1; omega)]
      rfl
    have hfa : ml_fa b nb = if ml_ftC b = 0 then @ite _ (ml_f7 b) (Classical.propDecidable _) 0 7 else ml_ftC b := by
      unfold ml_fa
      rw [if_pos hf1]
    have hftC : ml_ftC b = @ite _ (nI (ml_e b 0 1) < nI 1048576) (Classical.propDecidable _) 2 (@ite _ (ml_f3C b) (Classical.propDecidable _) (@ite _ (ml_f4 b) (Classical.propDecidable _) (@ite _ (ml_f5 b) (Classical.propDecidable _) (@ite _ (ml_f6 b) (Classical.propDecidable _) 0 6) 5) 4) 3) := rfl
    by_cases h2 : nI (ml_e b 0 1) < nI 1048576
    · skip
      refine fx_aloadn dX6_faultOf_0 rfl ?_
      refine fx_callVp dX6_faultOf_1 vX6_isWhole kkX6_106 rfl rfl (by assumption) (p_rf_isWhole G9 hb) rfl (by decide) (by decide) rfl (Nat.le_of_ble_eq_true rfl) ?_
      refine fx_if_ne 9 dX6_faultOf_4 (by decide) (fun c4 => ?_) (fun c4 => absurd c4 (bI_n0.mpr hf1))
      refine fx_aloadn dX6_faultOf_9 rfl ?_
      refine fx_bipush (nI 7) dX6_faultOf_10 (by decide) ?_
      refine fx_callVp dX6_faultOf_12 vX6_word kkX6_83 rfl rfl (by assumption) (p_rf_word D hb 7 (by omega)) rfl (by decide) (by decide) rfl (Nat.le_of_ble_eq_true rfl) ?_
      refine fx_ldc dX6_faultOf_15 qqX6_110 ?_
      rw [hw7]
      refine fx_icmp_ge 22 dX6_faultOf_17 (by decide) (fun c17 => absurd c17 (i_nle h2)) (fun c17 => ?_)
      refine fx_iconst (nI 2) dX6_faultOf_20 (by decide) ?_
      refine fx_iret dX6_faultOf_21 rfl ?_
      exact ⟨by rw [hfa, hftC, if_pos h2]; rfl, ft, fp, fh, E, kp.rf⟩
    · have h3i : (∀ j, ml_H b 2 ≤ j → j < ml_H b 3 + 1 → ml_giR b j) ↔ ml_f3C b := by
        refine Iff.trans ⟨fun q j h1 => ?_, fun q j h1 h2 => q j (by omega)⟩ f3_same.symm
        by_cases e : ml_H b 2 ≤ j ∧ j < ml_H b 3 + 1
        · exact q j e.1 e.2
        · intro h0
          exact absurd (ml_i_ran h0) (by omega)
      refine fx_aloadn dX6_faultOf_0 rfl ?_
      refine fx_callVp dX6_faultOf_1 vX6_isWhole kkX6_106 rfl rfl (by assumption) (p_rf_isWhole G9 hb) rfl (by decide) (by decide) rfl (Nat.le_of_ble_eq_true rfl) ?_
      refine fx_if_ne 9 dX6_faultOf_4 (by decide) (fun c4 => ?_) (fun c4 => absurd c4 (bI_n0.mpr hf1))
      refine fx_aloadn dX6_faultOf_9 rfl ?_
      refine fx_bipush (nI 7) dX6_faultOf_10 (by decide) ?_
      refine fx_callVp dX6_faultOf_12 vX6_word kkX6_83 rfl rfl (by assumption) (p_rf_word D hb 7 (by omega)) rfl (by decide) (by decide) rfl (Nat.le_of_ble_eq_true rfl) ?_
      refine fx_ldc dX6_faultOf_15 qqX6_110 ?_
      rw [hw7]
      refine fx_icmp_ge 22 dX6_faultOf_17 (by decide) (fun c17 => ?_) (fun c17 => absurd (i_le h2) c17)
      refine fx_iconst (nI 1) dX6_faultOf_22 (by decide) ?_
      refine fx_istoren dX6_faultOf_23 (by decide) ?_
      refine fx_aloadn dX6_faultOf_24 rfl ?_
      refine fx_iconst (nI 2) dX6_faultOf_25 (by decide) ?_
      refine fx_callVp dX6_faultOf_26 vX6_half kkX6_57 rfl rfl (by assumption) (p_rf_half D 2 (by omega)) rfl (by decide) (by decide) rfl (Nat.le_of_ble_eq_true rfl) ?_
      refine fx_istoren dX6_faultOf_29 (by decide) ?_
      refine fx_to (l_rf_fo1 D V hl _ (fun lv hlv => ?_) (ml_H b 3 + 1 - ml_H b 2) (ml_H b 2) (Nat.le_refl _) (by omega)) ⟨rfl, by rw [bI_t (fun j h1 h2 => by omega)]; rfl, rfl, trivial⟩
      rw [bI_c h3i] at hlv
      exact fx_to (l_rf_fo55 hb N HR E G9 V hl hf1 h2) hlv
  · skip
    refine fx_aloadn dX6_faultOf_0 rfl ?_
    refine fx_callVp dX6_faultOf_1 vX6_isWhole kkX6_106 rfl rfl (by assumption) (p_rf_isWhole G9 hb) rfl (by decide) (by decide) rfl (Nat.le_of_ble_eq_true rfl) ?_
    refine fx_if_ne 9 dX6_faultOf_4 (by decide) (fun c4 => absurd (bI_0.mpr hf1) c4) (fun c4 => ?_)
    refine fx_iconst (nI 1) dX6_faultOf_7 (by decide) ?_
    refine fx_iret dX6_faultOf_8 rfl ?_
    exact ⟨by unfold ml_fa; rw [if_neg hf1], ft, fp, fh, E, kp.rf⟩
