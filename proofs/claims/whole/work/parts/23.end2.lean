/-! FontDesk$Endings: ends() -/
theorem seek_ok {b : Nat → Nat} {nw : Nat} (V : ml_v b nw) (F5 : ml_f5 b) (y : Int32) : ∀ (n : Nat) (i : Int32), ml_ok b i → ml_seek b y n i = -1 ∨ ∃ j, j < ml_rl b 6 ∧ ml_seek b y n i = nI j ∧ ¬ 128 < ml_s b (nI j) ∧ nI (ml_n b (nI j)) = y := by
  intro n
  induction n with
  | zero => intro i _; exact Or.inl rfl
  | succ n ih =>
    intro i hi
    unfold ml_seek
    by_cases e : i = -1
    · rw [if_pos e]; exact Or.inl rfl
    · rw [if_neg e]
      rcases hi with q | ⟨j, hj, rfl⟩
      · exact absurd q e
      · by_cases e2 : ¬ 128 < ml_s b (nI j) ∧ nI (ml_n b (nI j)) = y
        · rw [if_pos e2]
          exact Or.inr ⟨j, hj, rfl, e2.1, e2.2⟩
        · rw [if_neg e2]
          refine ih _ ?_
          by_cases e3 : 128 < ml_s b (nI j)
          · unfold ml_nx
            rw [if_pos (by omega)]
            exact Or.inl rfl
          · rcases ok_nx V F5 hj e3 with q | ⟨k, -, hk, q⟩
            · exact Or.inl q
            · exact Or.inr ⟨k, hk, q⟩
theorem tt_ok {b : Nat → Nat} {nw : Nat} (V : ml_v b nw) (F3 : ml_F3a b) (F5 : ml_f5 b) {x y : Nat} (hx : x ≤ 256) : ml_tt b x y = -1 ∨ ∃ j, j < ml_rl b 6 ∧ ml_tt b x y = nI j ∧ ¬ 128 < ml_s b (nI j) ∧ nI (ml_n b (nI j)) = nI y := seek_ok V F5 (nI y) _ _ (ok_ps V F3 F5 hx)
theorem tt_ok1 {b : Nat → Nat} {nw : Nat} (V : ml_v b nw) (F3 : ml_F3a b) (F5 : ml_f5 b) {x y : Nat} (hx : x ≤ 256) : ml_ok b (ml_tt b x y) := by
  rcases tt_ok V F3 F5 (y := y) hx with q | ⟨j, hj, q, -⟩
  · exact Or.inl q
  · exact Or.inr ⟨j, hj, q⟩
theorem tt_lig {b : Nat → Nat} {nw : Nat} (V : ml_v b nw) (F3 : ml_F3a b) (F5 : ml_f5 b) {x y : Nat} (hx : x ≤ 256) (h : ml_tt b x y ≠ -1) (ho : ¬ 128 ≤ ml_o b (ml_tt b x y)) : ml_lig (ml_o b (ml_tt b x y)) := by
  rcases tt_ok V F3 F5 (y := y) hx with q | ⟨j, hj, q, hs, -⟩
  · exact absurd q h
  · rw [q] at ho ⊢
    have h3 := F5 j hj
    unfold ml_stp at h3
    rw [if_neg hs] at h3
    have h4 := h3.2.2
    rw [if_neg ho] at h4
    exact h4.2
/-- sums over the table of answers -/
def sm (w : Int32 → Nat) (f : Nat → Int32) : Nat → Nat
  | 0 => 0
  | n + 1 => sm w f n + w (f n)
theorem sm_off (w : Int32 → Nat) (f : Nat → Int32) (p : Nat) (v : Int32) : ∀ n, n ≤ p → sm w (upd f p v) n = sm w f n := by
  intro n
  induction n with
  | zero => intro _; rfl
  | succ n ih =>
    intro h
    show sm w (upd f p v) n + w (upd f p v n) = sm w f n + w (f n)
    rw [ih (by omega), pk_un (by omega)]
theorem sm_upd (w : Int32 → Nat) (f : Nat → Int32) (p : Nat) (v : Int32) : ∀ n, p < n → sm w (upd f p v) n + w (f p) = sm w f n + w v := by
  intro n
  induction n with
  | zero => intro h; omega
  | succ n ih =>
    intro h
    show sm w (upd f p v) n + w (upd f p v n) + w (f p) = sm w f n + w (f n) + w v
    by_cases e : p = n
    · subst e
      rw [sm_off w f p v p (Nat.le_refl _), pk_us]
      omega
    · have := ih (by omega)
      rw [pk_un (Ne.symm e)]
      omega
theorem sm_le (w : Int32 → Nat) (f : Nat → Int32) (c : Nat) (h : ∀ v, w v ≤ c) : ∀ n, sm w f n ≤ c * n := by
  intro n
  induction n with
  | zero => exact Nat.zero_le _
  | succ n ih =>
    have := h (f n)
    show sm w f n + w (f n) ≤ c * (n + 1)
    rw [Nat.mul_succ]
    omega
def sw1 (v : Int32) : Nat := if v = -1 then 1 else 0
def sw2 (v : Int32) : Nat := if v = 0 then 2 else if v = -1 then 1 else 0
theorem sw1_le (v : Int32) : sw1 v ≤ 1 := by unfold sw1; split <;> omega
theorem sw2_le (v : Int32) : sw2 v ≤ 2 := by unfold sw2; split; omega; split <;> omega
theorem sw_k {z : Nat} (h : z < 256) : sw1 (nI (z + 1)) = 0 ∧ sw2 (nI (z + 1)) = 0 := by
  have h1 : ¬ nI (z + 1) = -1 := nI_m1 _ (by omega)
  have h2 : ¬ nI (z + 1) = 0 := fun e => absurd ((nI_eq0 (by omega)).mp e) (by omega)
  refine ⟨?_, ?_⟩
  · unfold sw1
    rw [if_neg h1]
  · unfold sw2
    rw [if_neg h2, if_neg h1]

theorem c_en_answer {g : fx_G} {h : fx_H} {e pr pg pt pa pl rows L : Nat} {fr fg ft fa fl : Nat → Int32} (E : en h e pr pg pt pa pl fr fg ft fa fl rows L) {b : Nat → Nat} (B : enb b fr fg) (hL : L ≤ 65792) (hrL : 256 * ml_rk b 257 ≤ L) (N : eap pr pg pt pa pl) (T : ent b ft) (K : eok b fa) {S : Nat → Prop} {a nw : Nat} {z9 : Int32} (H : fo S h a b nw z9) (V : ml_v b nw) (F5 : ml_f5 b) (F3 : ml_F3a b) (x y : Nat) (hx : x ≤ 256) (hy : y < 256) (hp : ml_ps b x ≠ -1) : fx_Met g mX1_answer 3 69 [.ref e, .ref a, .int (nI (ml_P b x y))] h 0 0 (anK b h e pr pg pt pa pl fr fg ft fa fl rows L x y) := by
  obtain ⟨h1, h2, h3, h4, h5, h6⟩ := id E
  obtain ⟨hff, hf1⟩ := H.at
  have hpL : ml_P b x y < L := Nat.lt_of_lt_of_le (mP_lt hx hp hy) hrL
  have hrk := rk_le b x
  refine fx_Met.of rfl (Nat.le_of_ble_eq_true rfl) ?_
  refine fx_iloadn dX1_answer_0 rfl ?_
  refine fx_bipush (nI 8) dX1_answer_1 (by decide) ?_
  refine fx_ishr dX1_answer_3 ?_
  rw [pk_shrN (by omega) (nI 8 &&& 31) 8 (by decide), show ml_P b x y / 2 ^ 8 = ml_rk b x by unfold ml_P; omega]
  refine fx_istoren dX1_answer_4 (by decide) ?_
  refine fx_iloadn dX1_answer_5 rfl ?_
  refine fx_if_lt 25 dX1_answer_6 (by decide) (fun c6 => absurd c6 (nI_pos (by omega))) (fun c6 => ?_)
  refine fx_iloadn dX1_answer_9 rfl ?_
  refine fx_aloadn dX1_answer_10 rfl ?_
  refine fx_get dX1_answer_11 ffX1_24 (by assumption) rfl ?_
  refine fx_alenI dX1_answer_14 (by assumption) (by decide) ?_
  refine fx_icmp_ge 25 dX1_answer_15 (by decide) (fun c15 => absurd c15 (nI_ge hpL (by omega))) (fun c15 => ?_)
  refine fx_iloadn dX1_answer_18 rfl ?_
  refine fx_sipush (nI 257) dX1_answer_19 (by decide) ?_
  refine fx_icmp_lt 27 dX1_answer_22 (by decide) (fun c22 => ?_) (fun c22 => absurd (nI_lt (show ml_rk b x < 257 by omega) (by decide)) c22)
  refine fx_aloadn dX1_answer_27 rfl ?_
  refine fx_get dX1_answer_28 ffX1_17 (by assumption) rfl ?_
  refine fx_iloadn dX1_answer_31 rfl ?_
  refine fx_iald dX1_answer_32 h3 (vp_in_nI (show ml_rk b x < 257 by omega) (by decide)) ?_
  rw [nI_clamp (by omega), B.2 x hx hp]
  refine fx_istore dX1_answer_33 (by decide) ?_
  refine fx_iloadn dX1_answer_35 rfl ?_
  refine fx_sipush (nI 255) dX1_answer_36 (by decide) ?_
  refine fx_iand dX1_answer_39 ?_
  rw [pk_andN (m := nI 255) (by omega) 8 (by decide), show ml_P b x y % 2 ^ 8 = y by unfold ml_P; omega]
  refine fx_istore dX1_answer_40 (by decide) ?_
  refine fx_aloadn dX1_answer_42 rfl ?_
  refine fx_get dX1_answer_43 ffX1_24 (by assumption) rfl ?_
  refine fx_iloadn dX1_answer_46 rfl ?_
  refine fx_iald dX1_answer_47 h4 (vp_in_nI hpL (by omega)) ?_
  rw [nI_clamp (by omega), T x y hx hy hp]
  refine fx_iconst (nI 1) dX1_answer_48 (by decide) ?_
  refine fx_isub dX1_answer_49 ?_
  rw [show ml_tt b x y + nI 1 - nI 1 = ml_tt b x y from Int32.add_sub_cancel _ _]
  refine fx_istore dX1_answer_50 (by decide) ?_
  refine fx_aloadn dX1_answer_52 rfl ?_
  refine fx_iload dX1_answer_53 rfl ?_
  refine fx_callVp dX1_answer_55 vX3_deedOf kkX1_84 rfl rfl (by assumption) (p_fo_deedOf H V _) rfl (by decide) (by decide) rfl (Nat.le_of_ble_eq_true rfl) ?_
  refine fx_istore dX1_answer_58 (by decide) ?_
  refine fx_aloadn dX1_answer_60 rfl ?_
  refine fx_iload dX1_answer_61 rfl ?_
  refine fx_callVp dX1_answer_63 vX3_remainderOf kkX1_87 rfl rfl (by assumption) (p_fo_remainderOf H V _) rfl (by decide) (by decide) rfl (Nat.le_of_ble_eq_true rfl) ?_
  refine fx_istore dX1_answer_66 (by decide) ?_
  exact fx_to (l_en_answer E B hL hrL N T K H V F5 F3 x y hx hy hp (tt_ok1 V F3 F5 hx) (tt_lig V F3 F5 hx)) ⟨rfl, rfl, rfl, rfl, rfl, rfl, rfl, rfl, trivial⟩
/-- the state of the search: dp pairs are awaited, each for the sake of the one ahead -/
def dfs (b : Nat → Nat) (fa fl : Nat → Int32) (dp : Nat) : Prop := eok b fa ∧ ∃ tx ty : Nat → Nat, (∀ j, j < dp → tx j ≤ 256 ∧ ty j < 256 ∧ ml_ps b (tx j) ≠ -1 ∧ fl j = nI (ml_P b (tx j) (ty j)) ∧ fa (ml_P b (tx j) (ty j)) = -1) ∧ (∀ i j, i < j → j < dp → ml_P b (tx i) (ty i) ≠ ml_P b (tx j) (ty j)) ∧ (∀ j, j + 1 < dp → ml_nd b (tx j) (ty j) (tx (j + 1)) (ty (j + 1))) ∧ (∀ x y, x ≤ 256 → y < 256 → ml_ps b x ≠ -1 → fa (ml_P b x y) = -1 → ∃ j, j < dp ∧ tx j = x ∧ ty j = y) ∧ sm sw1 fa (256 * ml_rk b 257) = dp
theorem dfs.chain {b : Nat → Nat} {tx ty : Nat → Nat} {dp : Nat} (h : ∀ j, j + 1 < dp → ml_nd b (tx j) (ty j) (tx (j + 1)) (ty (j + 1))) : ∀ k i, i + k + 1 < dp → ml_nd b (tx i) (ty i) (tx (i + k + 1)) (ty (i + k + 1)) := by
  intro k
  induction k with
  | zero => intro i hi; exact h i hi
  | succ k ih =>
    intro i hi
    exact (ih i (by omega)).tr (h (i + k + 1) (by omega))
theorem eok.put {b : Nat → Nat} {fa : Nat → Int32} (K : eok b fa) {x y z : Nat} (hp : ml_ps b x ≠ -1) (hy : y < 256) (hz : z < 256) (hn : ∃ n, ml_An b n x y = z + 1) : eok b (upd fa (ml_P b x y) (nI (z + 1))) := by
  intro x' y' hx' hy' hp'
  by_cases e : ml_P b x' y' = ml_P b x y
  · obtain ⟨rfl, rfl⟩ := mP_inj hp' hp hy' hy e
    rw [pk_us]
    exact Or.inr (Or.inr ⟨z, hz, rfl, hn⟩)
  · rw [pk_un e]
    exact K x' y' hx' hy' hp'
theorem eok.aw {b : Nat → Nat} {fa : Nat → Int32} (K : eok b fa) {p : Nat} : eok b (upd fa p (-1)) := by
  intro x' y' hx' hy' hp'
  by_cases e : ml_P b x' y' = p
  · rw [e, pk_us]
    exact Or.inr (Or.inl rfl)
  · rw [pk_un e]
    exact K x' y' hx' hy' hp'
/-- a pair that isn't known is awaited now -/
theorem dfs.push {b : Nat → Nat} {fa fl : Nat → Int32} {dp : Nat} (Df : dfs b fa fl dp) {x y : Nat} (hx : x ≤ 256) (hy : y < 256) (hp : ml_ps b x ≠ -1) (hu : fa (ml_P b x y) = 0) (hn : ∀ tx ty : Nat → Nat, (∀ j, j < dp → fl j = nI (ml_P b (tx j) (ty j)) ∧ tx j ≤ 256 ∧ ty j < 256 ∧ ml_ps b (tx j) ≠ -1) → 0 < dp → ml_nd b (tx (dp - 1)) (ty (dp - 1)) x y) : dfs b (upd fa (ml_P b x y) (-1)) (upd fl dp (nI (ml_P b x y))) (dp + 1) := by
  obtain ⟨K, tx, ty, d1, d2, d3, d4, d5⟩ := Df
  have hne : ∀ j, j < dp → ml_P b (tx j) (ty j) ≠ ml_P b x y := fun j hj q => by
    have := (d1 j hj).2.2.2.2
    rw [q, hu] at this
    exact absurd this (by decide)
  refine ⟨K.aw, fun j => if j = dp then x else tx j, fun j => if j = dp then y else ty j, fun j hj => ?_, fun i j hij hj => ?_, fun j hj => ?_, fun x' y' hx' hy' hp' hq => ?_, ?_⟩
  · by_cases q : j = dp
    · subst q
      simp only [if_pos]
      exact ⟨hx, hy, hp, pk_us, pk_us⟩
    · simp only [if_neg q]
      have := d1 j (by omega)
      refine ⟨this.1, this.2.1, this.2.2.1, ?_, ?_⟩
      · rw [pk_un q]; exact this.2.2.2.1
      · rw [pk_un (hne j (by omega))]; exact this.2.2.2.2
  · simp only [if_neg (show i ≠ dp by omega)]
    by_cases q : j = dp
    · simp only [if_pos q]
      exact hne i (by omega)
    · simp only [if_neg q]
      exact d2 i j hij (by omega)
  · simp only [if_neg (show j ≠ dp by omega)]
    by_cases q : j + 1 = dp
    · simp only [if_pos q]
      have := hn tx ty (fun j hj => ⟨(d1 j hj).2.2.2.1, (d1 j hj).1, (d1 j hj).2.1, (d1 j hj).2.2.1⟩) (by omega)
      rw [show dp - 1 = j by omega] at this
      exact this
    · simp only [if_neg q]
      exact d3 j (by omega)
  · by_cases q : ml_P b x' y' = ml_P b x y
    · obtain ⟨rfl, rfl⟩ := mP_inj hp' hp hy' hy q
      exact ⟨dp, by omega, if_pos rfl, if_pos rfl⟩
    · rw [pk_un q] at hq
      obtain ⟨j, hj, e1, e2⟩ := d4 x' y' hx' hy' hp' hq
      exact ⟨j, by omega, by simp only [if_neg (show j ≠ dp by omega)]; exact e1, by simp only [if_neg (show j ≠ dp by omega)]; exact e2⟩
  · have h1 := sm_upd sw1 fa (ml_P b x y) (-1) _ (mP_lt hx hp hy)
    rw [hu, d5] at h1
    have e0 : sw1 0 = 0 := by decide
    have e1 : sw1 (-1) = 1 := by decide
    omega
/-- the pair on top is known now -/
theorem dfs.pop {b : Nat → Nat} {fa fl : Nat → Int32} {dp : Nat} {tx ty : Nat → Nat} (K : eok b fa) (d1 : ∀ j, j < dp + 1 → tx j ≤ 256 ∧ ty j < 256 ∧ ml_ps b (tx j) ≠ -1 ∧ fl j = nI (ml_P b (tx j) (ty j)) ∧ fa (ml_P b (tx j) (ty j)) = -1) (d2 : ∀ i j, i < j → j < dp + 1 → ml_P b (tx i) (ty i) ≠ ml_P b (tx j) (ty j)) (d3 : ∀ j, j + 1 < dp + 1 → ml_nd b (tx j) (ty j) (tx (j + 1)) (ty (j + 1))) (d4 : ∀ x y, x ≤ 256 → y < 256 → ml_ps b x ≠ -1 → fa (ml_P b x y) = -1 → ∃ j, j < dp + 1 ∧ tx j = x ∧ ty j = y) (d5 : sm sw1 fa (256 * ml_rk b 257) = dp + 1) {z : Nat} (hz : z < 256) (hn : ∃ n, ml_An b n (tx dp) (ty dp) = z + 1) : dfs b (upd fa (ml_P b (tx dp) (ty dp)) (nI (z + 1))) fl dp := by
  have h0 := d1 dp (by omega)
  refine ⟨K.put h0.2.2.1 h0.2.1 hz hn, tx, ty, fun j hj => ?_, fun i j hij hj => d2 i j hij (by omega), fun j hj => d3 j (by omega), fun x' y' hx' hy' hp' hq => ?_, ?_⟩
  · have := d1 j (by omega)
    refine ⟨this.1, this.2.1, this.2.2.1, this.2.2.2.1, ?_⟩
    rw [pk_un (d2 j dp hj (by omega))]
    exact this.2.2.2.2
  · by_cases q : ml_P b x' y' = ml_P b (tx dp) (ty dp)
    · rw [q, pk_us] at hq
      exact absurd hq (nI_m1 _ (by omega))
    · rw [pk_un q] at hq
      obtain ⟨j, hj, e1, e2⟩ := d4 x' y' hx' hy' hp' hq
      refine ⟨j, ?_, e1, e2⟩
      by_cases e : j = dp
      · subst e
        rw [e1, e2] at q
        exact absurd rfl q
      · omega
  · have h1 := sm_upd sw1 fa (ml_P b (tx dp) (ty dp)) (nI (z + 1)) _ (mP_lt h0.1 h0.2.2.1 h0.2.1)
    rw [h0.2.2.2.2, d5, (sw_k hz).1] at h1
    have e1 : sw1 (-1) = 1 := by decide
    omega

theorem l_en_ends {g : fx_G} {h0 : fx_H} {e pr pg pt pa pl rows L p0 : Nat} {fr fg ft fa0 : Nat → Int32} {b : Nat → Nat} (B : enb b fr fg) (hL : L ≤ 65792) (hrL : 256 * ml_rk b 257 ≤ L) (N : eap pr pg pt pa pl) (T : ent b ft) {S : Nat → Prop} {a nw : Nat} {z9 : Int32} (V : ml_v b nw) (F5 : ml_f5 b) (F3 : ml_F3a b) (HS : ∀ h, kp (fun x => x = pa ∨ x = pl) h0 h → fo S h a b nw z9) (hna : ∀ p, p < 256 * ml_rk b 257 → fa0 p ≠ -1) : ∀ (m : Nat) (h : fx_H) (fa fl : Nat → Int32) (t dp : Nat), en h e pr pg pt pa pl fr fg ft fa fl rows L → kp (fun x => x = pa ∨ x = pl) h0 h → dfs b fa fl dp → sm sw2 fa (256 * ml_rk b 257) = m → t + m ≤ 2 * (256 * ml_rk b 257) → (∀ p, fa0 p ≠ 0 → fa p = fa0 p) → fa p0 ≠ 0 → fx_Y g mX1_ends 4 98 (fun r h' => ∃ fa' fl', en h' e pr pg pt pa pl fr fg ft fa' fl' rows L ∧ kp (fun x => x = pa ∨ x = pl) h0 h' ∧ ((r = some (.int (nI 1)) ∧ dfs b fa' fl' 0 ∧ (∀ p, fa0 p ≠ 0 → fa' p = fa0 p) ∧ fa' p0 ≠ 0) ∨ (r = some (.int (nI 0)) ∧ ¬ ml_f7 b))) (fun _ _ => False) 10 [(0, .ref e), (1, .ref a), (3, .int (nI dp)), (4, .int (nI t))] [] h 0 0 := by
  intro m
  induction m using Nat.strongRecOn with
  | ind m ih =>
  intro h fa fl t dp E hk Df hm ht h00 h01
  obtain ⟨h1, h2, h3, h4, h5, h6⟩ := id E
  have hrk := rk_le b 257
  cases dp with
  | zero =>
    by_cases q3 : nI (3 * L) ≤ nI t
    · skip
      refine fx_iload dX1_ends_10 rfl ?_
      refine fx_iconst (nI 3) dX1_ends_12 (by decide) ?_
      refine fx_aloadn dX1_ends_13 rfl ?_
      refine fx_get dX1_ends_14 ffX1_30 (by assumption) rfl ?_
      refine fx_alenI dX1_ends_17 (by assumption) (by decide) ?_
      refine fx_imul dX1_ends_18 ?_
      rw [pk_mul]
      refine fx_icmp_ge 88 dX1_ends_19 (by decide) (fun c19 => ?_) (fun c19 => absurd (q3) c19)
      refine fx_iloadn dX1_ends_88 rfl ?_
      refine fx_if_ne 96 dX1_ends_89 (by decide) (fun c89 => absurd (rfl) c89) (fun c89 => ?_)
      refine fx_iconst (nI 1) dX1_ends_92 (by decide) ?_
      refine fx_goto 97 dX1_ends_93 (by decide) ?_
      refine fx_zret dX1_ends_97 rfl rfl ?_
      exact ⟨fa, fl, E, hk, Or.inl ⟨rfl, Df, h00, h01⟩⟩
    · skip
      refine fx_iload dX1_ends_10 rfl ?_
      refine fx_iconst (nI 3) dX1_ends_12 (by decide) ?_
      refine fx_aloadn dX1_ends_13 rfl ?_
      refine fx_get dX1_ends_14 ffX1_30 (by assumption) rfl ?_
      refine fx_alenI dX1_ends_17 (by assumption) (by decide) ?_
      refine fx_imul dX1_ends_18 ?_
      rw [pk_mul]
      refine fx_icmp_ge 88 dX1_ends_19 (by decide) (fun c19 => absurd c19 (q3)) (fun c19 => ?_)
      refine fx_iloadn dX1_ends_22 rfl ?_
      refine fx_if_le 88 dX1_ends_23 (by decide) (fun c23 => ?_) (fun c23 => absurd (by decide) c23)
      refine fx_iloadn dX1_ends_88 rfl ?_
      refine fx_if_ne 96 dX1_ends_89 (by decide) (fun c89 => absurd (rfl) c89) (fun c89 => ?_)
      refine fx_iconst (nI 1) dX1_ends_92 (by decide) ?_
      refine fx_goto 97 dX1_ends_93 (by decide) ?_
      refine fx_zret dX1_ends_97 rfl rfl ?_
      exact ⟨fa, fl, E, hk, Or.inl ⟨rfl, Df, h00, h01⟩⟩
  | succ dp =>
    obtain ⟨Df0, tx, ty, d1, d2, d3, d4, d5⟩ := Df
    have hd0 := d1 dp (by omega)
    have H := HS h hk
    have hsm := sm_le sw1 fa 1 sw1_le (256 * ml_rk b 257)
    have hsm2 := sm_upd sw2 fa (ml_P b (tx dp) (ty dp)) 1 _ (mP_lt hd0.1 hd0.2.2.1 hd0.2.1)
    rw [hd0.2.2.2.2] at hsm2
    have e9 : sw2 (-1) = 1 := by decide
    have e8 : sw2 1 = 0 := by decide
    refine fx_iload dX1_ends_10 rfl ?_
    refine fx_iconst (nI 3) dX1_ends_12 (by decide) ?_
    refine fx_aloadn dX1_ends_13 rfl ?_
    refine fx_get dX1_ends_14 ffX1_30 (by assumption) rfl ?_
    refine fx_alenI dX1_ends_17 (by assumption) (by decide) ?_
    refine fx_imul dX1_ends_18 ?_
    rw [pk_mul]
    refine fx_icmp_ge 88 dX1_ends_19 (by decide) (fun c19 => absurd c19 (nI_ge (show t < 3 * L by omega) (by omega))) (fun c19 => ?_)
    refine fx_iloadn dX1_ends_22 rfl ?_
    refine fx_if_le 88 dX1_ends_23 (by decide) (fun c23 => absurd c23 (nI_nle (by omega) (by omega))) (fun c23 => ?_)
    refine fx_iloadn dX1_ends_26 rfl ?_
    refine fx_aloadn dX1_ends_27 rfl ?_
    refine fx_get dX1_ends_28 ffX1_30 (by assumption) rfl ?_
    refine fx_alenI dX1_ends_31 (by assumption) (by decide) ?_
    refine fx_icmp_gt 88 dX1_ends_32 (by decide) (fun c32 => absurd c32 (nI_nlt (show dp + 1 ≤ L by omega) (by omega))) (fun c32 => ?_)
    refine fx_aloadn dX1_ends_35 rfl ?_
    refine fx_aloadn dX1_ends_36 rfl ?_
    refine fx_aloadn dX1_ends_37 rfl ?_
    refine fx_get dX1_ends_38 ffX1_30 (by assumption) rfl ?_
    refine fx_iloadn dX1_ends_41 rfl ?_
    refine fx_iconst (nI 1) dX1_ends_42 (by decide) ?_
    refine fx_isub dX1_ends_43 ?_
    rw [pk_sub (by omega)]
    refine fx_iald dX1_ends_44 h6 (vp_in_nI (show dp + 1 - 1 < L by omega) (by omega)) ?_
    rw [nI_clamp (by omega), show dp + 1 - 1 = dp by omega, hd0.2.2.2.1]
    refine fx_callV dX1_ends_45 vX1_answer kkX1_80 rfl rfl h1 (c_en_answer E B hL hrL N T Df0 H V F5 F3 (tx dp) (ty dp) hd0.1 hd0.2.1 hd0.2.2.1) rfl (by decide) (by decide) (Nat.zero_le _) (Nat.zero_le _) rfl (Nat.le_of_ble_eq_true rfl) (fun r h2 hk2 => ?_)
    rcases hk2 with ⟨rfl, z, hz, hzn, E2, hk4⟩ | ⟨x', y', hx', hy', hu, rfl, rfl, hnd⟩
    · skip
      refine fx_istore dX1_ends_48 (by decide) ?_
      refine fx_iload dX1_ends_50 rfl ?_
      refine fx_iconst (-1) dX1_ends_52 (by decide) ?_
      refine fx_icmp_ne 62 dX1_ends_53 (by decide) (fun c53 => absurd (rfl) c53) (fun c53 => ?_)
      refine fx_iinc (-1) dX1_ends_56 rfl (by decide) (by decide) ?_
      rw [pk_m1]
      refine fx_goto 82 dX1_ends_59 (by decide) ?_
      refine fx_iinc (nI 1) dX1_ends_82 rfl (by decide) (by decide) ?_
      refine fx_goto 10 dX1_ends_85 (by decide) ?_
      simp only [nI_add]
      have hw := sm_upd sw2 fa (ml_P b (tx dp) (ty dp)) (nI (z + 1)) _ (mP_lt hd0.1 hd0.2.2.1 hd0.2.1)
      rw [hd0.2.2.2.2, (sw_k hz).2] at hw
      have e1 : sw2 (-1) = 1 := by decide
      refine fx_to (ih _ (by omega) h2 _ _ (t + 1) dp E2 (hk.tr hk4 (fun x hx _ => Or.inl hx)) (dfs.pop Df0 d1 d2 d3 d4 d5 hz hzn) rfl (by omega) (fun p hp => ?_) ?_) ⟨rfl, rfl, rfl, rfl, trivial⟩
      · by_cases q : p = ml_P b (tx dp) (ty dp)
        · exfalso
          have := h00 p hp
          rw [q, hd0.2.2.2.2] at this
          exact hna p (by rw [q]; exact mP_lt hd0.1 hd0.2.2.1 hd0.2.1) (by rw [q]; exact this.symm)
        · rw [pk_un q]
          exact h00 p hp
      · by_cases q : p0 = ml_P b (tx dp) (ty dp)
        · rw [q, pk_us]
          exact fun e => absurd ((nI_eq0 (by omega)).mp e) (by omega)
        · rw [pk_un q]
          exact h01
    · have hpq : ml_P b x' y' < L := Nat.lt_of_lt_of_le (mP_lt hx' hu.1 hy') hrL
      rcases hu.2 with hu0 | hu0
      · skip
        refine fx_istore dX1_ends_48 (by decide) ?_
        refine fx_iload dX1_ends_50 rfl ?_
        refine fx_iconst (-1) dX1_ends_52 (by decide) ?_
        refine fx_icmp_ne 62 dX1_ends_53 (by decide) (fun c53 => ?_) (fun c53 => absurd c53 (nI_m1 _ (by omega)))
        refine fx_aloadn dX1_ends_62 rfl ?_
        refine fx_iload dX1_ends_63 rfl ?_
        refine fx_callVp dX1_ends_65 vX1_stateOf kkX1_44 rfl rfl (by assumption) (p_en_stateOf E hL _ hpq) rfl (by decide) (by decide) rfl (Nat.le_of_ble_eq_true rfl) ?_
        refine fx_iconst (-1) dX1_ends_68 (by decide) ?_
        refine fx_icmp_ne 74 dX1_ends_69 (by decide) (fun c69 => ?_) (fun c69 => absurd c69 (by rw [hu0]; decide))
        refine fx_aloadn dX1_ends_74 rfl ?_
        refine fx_iload dX1_ends_75 rfl ?_
        refine fx_iloadn dX1_ends_77 rfl ?_
        have hs3 := sm_upd sw1 fa (ml_P b x' y') (-1) _ (mP_lt hx' hu.1 hy')
        have hs4 := sm_le sw1 (upd fa (ml_P b x' y') (-1)) 1 sw1_le (256 * ml_rk b 257)
        rw [hu0, d5, show sw1 0 = 0 by decide, show sw1 (-1) = 1 by decide] at hs3
        refine fx_callV dX1_ends_78 vX1_awaitAnswer kkX1_77 rfl rfl h1 (c_en_await E N hL (ml_P b x' y') (dp + 1) hpq (by omega)) rfl (by decide) (by decide) (Nat.zero_le _) (Nat.zero_le _) rfl (Nat.le_of_ble_eq_true rfl) (fun r h3 hk3 => ?_)
        obtain ⟨rfl, E3, hk5⟩ := hk3
        refine fx_istoren dX1_ends_81 (by decide) ?_
        refine fx_iinc (nI 1) dX1_ends_82 rfl (by decide) (by decide) ?_
        refine fx_goto 10 dX1_ends_85 (by decide) ?_
        simp only [nI_add]
        have hw := sm_upd sw2 fa (ml_P b x' y') (-1) _ (mP_lt hx' hu.1 hy')
        rw [hu0] at hw
        have e0 : sw2 0 = 2 := by decide
        have e1 : sw2 (-1) = 1 := by decide
        refine fx_to (ih _ (by omega) h3 _ _ (t + 1) (dp + 2) E3 (hk.tr hk5 (fun x hx _ => hx)) (dfs.push ⟨Df0, tx, ty, d1, d2, d3, d4, d5⟩ hx' hy' hu.1 hu0 ?_) rfl (by omega) (fun p hp => ?_) ?_) ⟨rfl, rfl, rfl, rfl, trivial⟩
        · intro tx2 ty2 q1 _
          have q2 := q1 dp (by omega)
          have q3 := hd0.2.2.2.1
          rw [q2.1] at q3
          have q4 := mP_lt q2.2.1 q2.2.2.2 q2.2.2.1
          have q5 := mP_lt hd0.1 hd0.2.2.1 hd0.2.1
          obtain ⟨e1, e2⟩ := mP_inj q2.2.2.2 hd0.2.2.1 q2.2.2.1 hd0.2.1 ((nI_eq (by omega) (by omega)).mp q3)
          show ml_nd b (tx2 (dp + 1 - 1)) (ty2 (dp + 1 - 1)) x' y'
          rw [show dp + 1 - 1 = dp by omega, e1, e2]
          exact hnd
        · by_cases q : p = ml_P b x' y'
          · exfalso
            have := h00 p hp
            rw [q, hu0] at this
            exact hp (by rw [q]; exact this.symm)
          · rw [pk_un q]
            exact h00 p hp
        · by_cases q : p0 = ml_P b x' y'
          · rw [q, pk_us]
            decide
          · rw [pk_un q]
            exact h01
      · skip
        refine fx_istore dX1_ends_48 (by decide) ?_
        refine fx_iload dX1_ends_50 rfl ?_
        refine fx_iconst (-1) dX1_ends_52 (by decide) ?_
        refine fx_icmp_ne 62 dX1_ends_53 (by decide) (fun c53 => ?_) (fun c53 => absurd c53 (nI_m1 _ (by omega)))
        refine fx_aloadn dX1_ends_62 rfl ?_
        refine fx_iload dX1_ends_63 rfl ?_
        refine fx_callVp dX1_ends_65 vX1_stateOf kkX1_44 rfl rfl (by assumption) (p_en_stateOf E hL _ hpq) rfl (by decide) (by decide) rfl (Nat.le_of_ble_eq_true rfl) ?_
        refine fx_iconst (-1) dX1_ends_68 (by decide) ?_
        refine fx_icmp_ne 74 dX1_ends_69 (by decide) (fun c69 => absurd (by rw [hu0]) c69) (fun c69 => ?_)
        refine fx_iconst (nI 0) dX1_ends_72 (by decide) ?_
        refine fx_zret dX1_ends_73 rfl rfl ?_
        refine ⟨fa, fl, E, hk, Or.inr ⟨rfl, fun f7 => ?_⟩⟩
        obtain ⟨j, hj, e1, e2⟩ := d4 x' y' hx' hy' hu.1 hu0
        have hcyc : ml_nd b x' y' x' y' := by
          by_cases q : j = dp
          · rw [← q, e1, e2] at hnd
            exact hnd
          · have q2 := dfs.chain d3 (dp - j - 1) j (by omega)
            rw [show j + (dp - j - 1) + 1 = dp by omega, e1, e2] at q2
            exact q2.tr hnd
        obtain ⟨n, hn⟩ := f7 x' y' hx' hy'
        exact hn (hcyc.cyc n)
theorem c_en_ends {g : fx_G} {h : fx_H} {e pr pg pt pa pl rows L : Nat} {fr fg ft fa fl : Nat → Int32} {b : Nat → Nat} (E : en h e pr pg pt pa pl fr fg ft fa fl rows L) (B : enb b fr fg) (hL : L ≤ 65792) (hrL : 256 * ml_rk b 257 ≤ L) (N : eap pr pg pt pa pl) (T : ent b ft) {S : Nat → Prop} {a nw : Nat} {z9 : Int32} (V : ml_v b nw) (F5 : ml_f5 b) (F3 : ml_F3a b) (HS : ∀ h', kp (fun x => x = pa ∨ x = pl) h h' → fo S h' a b nw z9) (Df : dfs b fa fl 0) (hna : ∀ p, p < 256 * ml_rk b 257 → fa p ≠ -1) (x y : Nat) (hx : x ≤ 256) (hy : y < 256) (hp : ml_ps b x ≠ -1) (hu : fa (ml_P b x y) = 0) : fx_Met g mX1_ends 4 98 [.ref e, .ref a, .int (nI (ml_P b x y))] h 0 0 (fun r h' => ∃ fa' fl', en h' e pr pg pt pa pl fr fg ft fa' fl' rows L ∧ kp (fun x => x = pa ∨ x = pl) h h' ∧ ((r = some (.int (nI 1)) ∧ dfs b fa' fl' 0 ∧ (∀ p, fa p ≠ 0 → fa' p = fa p) ∧ fa' (ml_P b x y) ≠ 0) ∨ (r = some (.int (nI 0)) ∧ ¬ ml_f7 b))) := by
  have hpq : ml_P b x y < L := Nat.lt_of_lt_of_le (mP_lt hx hp hy) hrL
  have hrk := rk_le b 257
  refine fx_Met.of rfl (Nat.le_of_ble_eq_true rfl) ?_
  refine fx_aloadn dX1_ends_0 rfl ?_
  refine fx_iloadn dX1_ends_1 rfl ?_
  refine fx_iconst (nI 0) dX1_ends_2 (by decide) ?_
  refine fx_callV dX1_ends_3 vX1_awaitAnswer kkX1_77 rfl rfl E.1 (c_en_await E N hL (ml_P b x y) 0 hpq (by omega)) rfl (by decide) (by decide) (Nat.zero_le _) (Nat.zero_le _) rfl (Nat.le_of_ble_eq_true rfl) (fun r h3 hk3 => ?_)
  obtain ⟨rfl, E3, hk5⟩ := hk3
  refine fx_istoren dX1_ends_6 (by decide) ?_
  refine fx_iconst (nI 0) dX1_ends_7 (by decide) ?_
  refine fx_istore dX1_ends_8 (by decide) ?_
  have hw := sm_upd sw2 fa (ml_P b x y) (-1) _ (mP_lt hx hp hy)
  have hsm := sm_le sw2 fa 2 sw2_le (256 * ml_rk b 257)
  rw [hu] at hw
  have e0 : sw2 0 = 2 := by decide
  have e1 : sw2 (-1) = 1 := by decide
  refine fx_to (l_en_ends (p0 := ml_P b x y) (h0 := h) (fa0 := fa) B hL hrL N T V F5 F3 HS hna _ h3 _ _ 0 1 E3 hk5 (dfs.push Df hx hy hp hu (fun _ _ _ q => by omega)) rfl (by omega) (fun p q => ?_) ?_) ⟨rfl, rfl, rfl, rfl, trivial⟩
  · by_cases q2 : p = ml_P b x y
    · rw [q2] at q
      exact absurd hu q
    · rw [pk_un q2]
  · rw [pk_us]
    decide
