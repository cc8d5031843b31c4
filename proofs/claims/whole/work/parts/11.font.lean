/-! FontDesk$Font: its reads -/
/-- a font at a, all of whose cells are in S: the file b of nw words, at the size z -/
def fo (S : Nat → Prop) (h : fx_H) (a : Nat) (b : Nat → Nat) (nw : Nat) (z : Int32) : Prop := ∃ (pw ps pl pi : Nat) (fw fs fl fi : Nat → Int32), h a = some (.inr (2, [.ref pw, .ref ps, .ref pl, .ref pi, .int z])) ∧ h pw = some (.inl (0, nw, .inl fw)) ∧ h ps = some (.inl (0, 10, .inl fs)) ∧ h pl = some (.inl (0, 10, .inl fl)) ∧ h pi = some (.inl (0, 256, .inl fi)) ∧ (∀ k, k < nw → fw k = nI (ml_W b k)) ∧ (∀ r, r < 10 → fs r = nI (ml_st b r) ∧ fl r = nI (ml_rl b r)) ∧ (∀ c, c < 256 → fi c = nI (ml_i b c)) ∧ S a ∧ S pw ∧ S ps ∧ S pl ∧ S pi
theorem fo.kept {S : Nat → Prop} {h h' : fx_H} {a nw : Nat} {b : Nat → Nat} {z : Int32} (H : fo S h a b nw z) (hk : ∀ q, S q → h' q = h q) : fo S h' a b nw z := by
  obtain ⟨pw, ps, pl, pi, fw, fs, fl, fi, h1, h2, h3, h4, h5, h6, h7, h8, s1, s2, s3, s4, s5⟩ := H
  exact ⟨pw, ps, pl, pi, fw, fs, fl, fi, (hk _ s1).trans h1, (hk _ s2).trans h2, (hk _ s3).trans h3, (hk _ s4).trans h4, (hk _ s5).trans h5, h6, h7, h8, s1, s2, s3, s4, s5⟩
theorem fo.sub {S S' : Nat → Prop} {h : fx_H} {a nw : Nat} {b : Nat → Nat} {z : Int32} (H : fo S h a b nw z) (hs : ∀ q, S q → S' q) : fo S' h a b nw z := by
  obtain ⟨pw, ps, pl, pi, fw, fs, fl, fi, h1, h2, h3, h4, h5, h6, h7, h8, s1, s2, s3, s4, s5⟩ := H
  exact ⟨pw, ps, pl, pi, fw, fs, fl, fi, h1, h2, h3, h4, h5, h6, h7, h8, hs _ s1, hs _ s2, hs _ s3, hs _ s4, hs _ s5⟩
theorem fo.at {S : Nat → Prop} {h : fx_H} {a nw : Nat} {b : Nat → Nat} {z : Int32} (H : fo S h a b nw z) : ∃ fs : List Value, h a = some (.inr (2, fs)) := by
  obtain ⟨pw, ps, pl, pi, fw, fs, fl, fi, h1, -⟩ := H
  exact ⟨_, h1⟩

theorem p_fo_rowLength {g : fx_G} {S : Nat → Prop} {h : fx_H} {a nw : Nat} {b : Nat → Nat} {z : Int32} (H : fo S h a b nw z) (V : ml_v b nw) (r : Nat) (hr : r < 10) : fx_P g mX3_rowLength 0 0 [.ref a, .int (nI r)] h (.int (nI (ml_rl b r))) := by
  obtain ⟨pw, ps, pl, pi, fw, fs, fl, fi, h1, h2, h3, h4, h5, h6, h7, h8, -⟩ := id H
  refine fx_Met.of rfl (Nat.le_of_ble_eq_true rfl) ?_
  refine fx_iloadn dX3_rowLength_0 rfl ?_
  refine fx_if_lt 19 dX3_rowLength_1 (by decide) (fun c1 => absurd c1 (nI_pos (by omega))) (fun c1 => ?_)
  refine fx_iloadn dX3_rowLength_4 rfl ?_
  refine fx_bipush (nI 10) dX3_rowLength_5 (by decide) ?_
  refine fx_icmp_ge 19 dX3_rowLength_7 (by decide) (fun c7 => absurd c7 (nI_ge hr (by decide))) (fun c7 => ?_)
  refine fx_aloadn dX3_rowLength_10 rfl ?_
  refine fx_get dX3_rowLength_11 ffX3_15 (by assumption) rfl ?_
  refine fx_iloadn dX3_rowLength_14 rfl ?_
  refine fx_iald dX3_rowLength_15 (by assumption) (vp_in_nI hr (by decide)) ?_
  refine fx_goto 20 dX3_rowLength_16 (by decide) ?_
  refine fx_iret dX3_rowLength_20 rfl ?_
  refine ⟨?_, rfl⟩
  rw [nI_clamp (by omega), (h7 r hr).2]
theorem p_fo_wordAt {g : fx_G} {S : Nat → Prop} {h : fx_H} {a nw : Nat} {b : Nat → Nat} {z : Int32} (H : fo S h a b nw z) (V : ml_v b nw) (r : Nat) (hr : r < 10) (x : Int32) : fx_P g mX3_wordAt 0 0 [.ref a, .int (nI r), .int x] h (.int (nI (ml_eI b r x))) := by
  obtain ⟨pw, ps, pl, pi, fw, fs, fl, fi, h1, h2, h3, h4, h5, h6, h7, h8, -⟩ := id H
  refine fx_Met.of rfl (Nat.le_of_ble_eq_true rfl) ?_
  have hq1 := V.row hr
  have hq2 := V.nw
  by_cases hx : x < 0
  · skip
    refine fx_iloadn dX3_wordAt_0 rfl ?_
    refine fx_if_lt 24 dX3_wordAt_1 (by decide) (fun c1 => absurd c1 (nI_pos (by omega))) (fun c1 => ?_)
    refine fx_iloadn dX3_wordAt_4 rfl ?_
    refine fx_bipush (nI 10) dX3_wordAt_5 (by decide) ?_
    refine fx_icmp_ge 24 dX3_wordAt_7 (by decide) (fun c7 => absurd c7 (nI_ge hr (by decide))) (fun c7 => ?_)
    refine fx_iloadn dX3_wordAt_10 rfl ?_
    refine fx_if_lt 24 dX3_wordAt_11 (by decide) (fun c11 => ?_) (fun c11 => absurd (hx) c11)
    refine fx_iconst (nI 0) dX3_wordAt_24 (by decide) ?_
    refine fx_iret dX3_wordAt_25 rfl ?_
    exact ⟨by rw [ml_eI_m r hx], rfl⟩
  · obtain ⟨j, hj, rfl⟩ := nI_of hx
    by_cases hk : j < ml_rl b r
    · skip
      refine fx_iloadn dX3_wordAt_0 rfl ?_
      refine fx_if_lt 24 dX3_wordAt_1 (by decide) (fun c1 => absurd c1 (nI_pos (by omega))) (fun c1 => ?_)
      refine fx_iloadn dX3_wordAt_4 rfl ?_
      refine fx_bipush (nI 10) dX3_wordAt_5 (by decide) ?_
      refine fx_icmp_ge 24 dX3_wordAt_7 (by decide) (fun c7 => absurd c7 (nI_ge hr (by decide))) (fun c7 => ?_)
      refine fx_iloadn dX3_wordAt_10 rfl ?_
      refine fx_if_lt 24 dX3_wordAt_11 (by decide) (fun c11 => absurd c11 (nI_pos hj)) (fun c11 => ?_)
      refine fx_iloadn dX3_wordAt_14 rfl ?_
      refine fx_aloadn dX3_wordAt_15 rfl ?_
      refine fx_get dX3_wordAt_16 ffX3_15 (by assumption) rfl ?_
      refine fx_iloadn dX3_wordAt_19 rfl ?_
      refine fx_iald dX3_wordAt_20 (by assumption) (vp_in_nI hr (by decide)) ?_
      rw [nI_clamp (show r < 2 ^ 31 by omega), (h7 r hr).2]
      refine fx_icmp_lt 26 dX3_wordAt_21 (by decide) (fun c21 => ?_) (fun c21 => absurd (nI_lt hk (by omega)) c21)
      refine fx_aloadn dX3_wordAt_26 rfl ?_
      refine fx_get dX3_wordAt_27 ffX3_11 (by assumption) rfl ?_
      refine fx_iloadn dX3_wordAt_30 rfl ?_
      refine fx_iald dX3_wordAt_31 (by assumption) (vp_in_nI hr (by decide)) ?_
      rw [nI_clamp (show r < 2 ^ 31 by omega), (h7 r hr).1]
      refine fx_iloadn dX3_wordAt_32 rfl ?_
      refine fx_iadd dX3_wordAt_33 ?_
      rw [nI_add]
      refine fx_istoren dX3_wordAt_34 (by decide) ?_
      refine fx_iloadn dX3_wordAt_35 rfl ?_
      refine fx_if_lt 57 dX3_wordAt_36 (by decide) (fun c36 => absurd c36 (nI_pos (by omega))) (fun c36 => ?_)
      refine fx_iloadn dX3_wordAt_39 rfl ?_
      refine fx_aloadn dX3_wordAt_40 rfl ?_
      refine fx_get dX3_wordAt_41 ffX3_30 (by assumption) rfl ?_
      refine fx_alenI dX3_wordAt_44 (by assumption) (by decide) ?_
      refine fx_icmp_ge 57 dX3_wordAt_45 (by decide) (fun c45 => absurd c45 (nI_ge (show ml_st b r + j < nw by omega) (by omega))) (fun c45 => ?_)
      refine fx_aloadn dX3_wordAt_48 rfl ?_
      refine fx_get dX3_wordAt_49 ffX3_30 (by assumption) rfl ?_
      refine fx_iloadn dX3_wordAt_52 rfl ?_
      refine fx_iald dX3_wordAt_53 (by assumption) (vp_in_nI (show ml_st b r + j < nw by omega) (by omega)) ?_
      rw [nI_clamp (show ml_st b r + j < 2 ^ 31 by omega), h6 _ (by omega)]
      refine fx_goto 58 dX3_wordAt_54 (by decide) ?_
      refine fx_iret dX3_wordAt_58 rfl ?_
      refine ⟨?_, rfl⟩
      rw [ml_eI_n r hj]
      unfold ml_e
      rw [if_pos hk]
    · skip
      refine fx_iloadn dX3_wordAt_0 rfl ?_
      refine fx_if_lt 24 dX3_wordAt_1 (by decide) (fun c1 => absurd c1 (nI_pos (by omega))) (fun c1 => ?_)
      refine fx_iloadn dX3_wordAt_4 rfl ?_
      refine fx_bipush (nI 10) dX3_wordAt_5 (by decide) ?_
      refine fx_icmp_ge 24 dX3_wordAt_7 (by decide) (fun c7 => absurd c7 (nI_ge hr (by decide))) (fun c7 => ?_)
      refine fx_iloadn dX3_wordAt_10 rfl ?_
      refine fx_if_lt 24 dX3_wordAt_11 (by decide) (fun c11 => absurd c11 (nI_pos hj)) (fun c11 => ?_)
      refine fx_iloadn dX3_wordAt_14 rfl ?_
      refine fx_aloadn dX3_wordAt_15 rfl ?_
      refine fx_get dX3_wordAt_16 ffX3_15 (by assumption) rfl ?_
      refine fx_iloadn dX3_wordAt_19 rfl ?_
      refine fx_iald dX3_wordAt_20 (by assumption) (vp_in_nI hr (by decide)) ?_
      rw [nI_clamp (show r < 2 ^ 31 by omega), (h7 r hr).2]
      refine fx_icmp_lt 26 dX3_wordAt_21 (by decide) (fun c21 => absurd c21 (nI_nlt (by omega) hj)) (fun c21 => ?_)
      refine fx_iconst (nI 0) dX3_wordAt_24 (by decide) ?_
      refine fx_iret dX3_wordAt_25 rfl ?_
      refine ⟨?_, rfl⟩
      rw [ml_eI_n r hj]
      unfold ml_e
      rw [if_neg hk]
theorem p_fo_infoOf {g : fx_G} {S : Nat → Prop} {h : fx_H} {a nw : Nat} {b : Nat → Nat} {z : Int32} (H : fo S h a b nw z) (V : ml_v b nw) (x : Int32) : fx_P g mX3_infoOf 0 0 [.ref a, .int x] h (.int (nI (ml_iI b x))) := by
  obtain ⟨pw, ps, pl, pi, fw, fs, fl, fi, h1, h2, h3, h4, h5, h6, h7, h8, -⟩ := id H
  refine fx_Met.of rfl (Nat.le_of_ble_eq_true rfl) ?_
  by_cases hx : x < 0
  · skip
    refine fx_iloadn dX3_infoOf_0 rfl ?_
    refine fx_if_lt 20 dX3_infoOf_1 (by decide) (fun c1 => ?_) (fun c1 => absurd (hx) c1)
    refine fx_iconst (nI 0) dX3_infoOf_20 (by decide) ?_
    refine fx_iret dX3_infoOf_21 rfl ?_
    exact ⟨by rw [ml_iI_m hx], rfl⟩
  · obtain ⟨j, hj, rfl⟩ := nI_of hx
    by_cases hc : j < 256
    · skip
      refine fx_iloadn dX3_infoOf_0 rfl ?_
      refine fx_if_lt 20 dX3_infoOf_1 (by decide) (fun c1 => absurd c1 (nI_pos hj)) (fun c1 => ?_)
      refine fx_iloadn dX3_infoOf_4 rfl ?_
      refine fx_sipush (nI 256) dX3_infoOf_5 (by decide) ?_
      refine fx_icmp_ge 20 dX3_infoOf_8 (by decide) (fun c8 => absurd c8 (nI_ge hc (by decide))) (fun c8 => ?_)
      refine fx_aloadn dX3_infoOf_11 rfl ?_
      refine fx_get dX3_infoOf_12 ffX3_18 (by assumption) rfl ?_
      refine fx_iloadn dX3_infoOf_15 rfl ?_
      refine fx_iald dX3_infoOf_16 (by assumption) (vp_in_nI hc (by decide)) ?_
      refine fx_goto 21 dX3_infoOf_17 (by decide) ?_
      refine fx_iret dX3_infoOf_21 rfl ?_
      refine ⟨?_, rfl⟩
      rw [nI_clamp hj, h8 j hc, ml_iI_n hj]
    · skip
      refine fx_iloadn dX3_infoOf_0 rfl ?_
      refine fx_if_lt 20 dX3_infoOf_1 (by decide) (fun c1 => absurd c1 (nI_pos hj)) (fun c1 => ?_)
      refine fx_iloadn dX3_infoOf_4 rfl ?_
      refine fx_sipush (nI 256) dX3_infoOf_5 (by decide) ?_
      refine fx_icmp_ge 20 dX3_infoOf_8 (by decide) (fun c8 => ?_) (fun c8 => absurd (nI_le (by omega) hj) c8)
      refine fx_iconst (nI 0) dX3_infoOf_20 (by decide) ?_
      refine fx_iret dX3_infoOf_21 rfl ?_
      refine ⟨?_, rfl⟩
      rw [ml_iI_n hj, V.i0 (by omega)]
def ml_s (b : Nat → Nat) (x : Int32) : Nat := ml_eI b 6 x / 16777216
def ml_n (b : Nat → Nat) (x : Int32) : Nat := ml_eI b 6 x / 65536 % 256
def ml_o (b : Nat → Nat) (x : Int32) : Nat := ml_eI b 6 x / 256 % 256
def ml_r (b : Nat → Nat) (x : Int32) : Nat := ml_eI b 6 x % 256
def ml_tag (b : Nat → Nat) (x : Int32) : Nat := ml_iI b x / 256 % 4
def ml_rest (b : Nat → Nat) (x : Int32) : Nat := ml_iI b x % 256
theorem ml_s_lt {b : Nat → Nat} (hb : ∀ i, b i < 256) (x : Int32) : ml_s b x < 256 := by
  have := ml_eI_lt hb 6 x
  unfold ml_s
  omega
theorem ml_n_lt {b : Nat → Nat} (x : Int32) : ml_n b x < 256 := Nat.mod_lt _ (by decide)
theorem ml_o_lt {b : Nat → Nat} (x : Int32) : ml_o b x < 256 := Nat.mod_lt _ (by decide)
theorem ml_r_lt {b : Nat → Nat} (x : Int32) : ml_r b x < 256 := Nat.mod_lt _ (by decide)
theorem ml_tag_lt {b : Nat → Nat} (x : Int32) : ml_tag b x < 4 := Nat.mod_lt _ (by decide)
theorem ml_rest_lt {b : Nat → Nat} (x : Int32) : ml_rest b x < 256 := Nat.mod_lt _ (by decide)

theorem p_fo_skipOf {g : fx_G} {S : Nat → Prop} {h : fx_H} {a nw : Nat} {b : Nat → Nat} {z : Int32} (H : fo S h a b nw z) (V : ml_v b nw) (x : Int32) : fx_P g mX3_skipOf 1 23 [.ref a, .int x] h (.int (nI (ml_s b x))) := by
  obtain ⟨fs, h1⟩ := H.at
  refine fx_Met.of rfl (Nat.le_of_ble_eq_true rfl) ?_
  refine fx_aloadn dX3_skipOf_0 rfl ?_
  refine fx_bipush (nI 6) dX3_skipOf_1 (by decide) ?_
  refine fx_iloadn dX3_skipOf_3 rfl ?_
  refine fx_callVp dX3_skipOf_4 vX3_wordAt kkX3_40 rfl rfl (by assumption) (p_fo_wordAt H V 6 (by decide) _) rfl (by decide) (by decide) rfl (Nat.le_of_ble_eq_true rfl) ?_
  refine fx_bipush (nI 24) dX3_skipOf_7 (by decide) ?_
  refine fx_iushr dX3_skipOf_9 ?_
  refine fx_iret dX3_skipOf_10 rfl ?_
  refine ⟨?_, rfl⟩
  rw [pk_ushrN (ml_eI_lt V.1 6 x) (nI 24) 24 (by decide)]
  rfl
theorem p_fo_signOf {g : fx_G} {S : Nat → Prop} {h : fx_H} {a nw : Nat} {b : Nat → Nat} {z : Int32} (H : fo S h a b nw z) (V : ml_v b nw) (x : Int32) : fx_P g mX3_signOf 1 23 [.ref a, .int x] h (.int (nI (ml_n b x))) := by
  obtain ⟨fs, h1⟩ := H.at
  refine fx_Met.of rfl (Nat.le_of_ble_eq_true rfl) ?_
  refine fx_aloadn dX3_signOf_0 rfl ?_
  refine fx_bipush (nI 6) dX3_signOf_1 (by decide) ?_
  refine fx_iloadn dX3_signOf_3 rfl ?_
  refine fx_callVp dX3_signOf_4 vX3_wordAt kkX3_40 rfl rfl (by assumption) (p_fo_wordAt H V 6 (by decide) _) rfl (by decide) (by decide) rfl (Nat.le_of_ble_eq_true rfl) ?_
  refine fx_bipush (nI 16) dX3_signOf_7 (by decide) ?_
  refine fx_iushr dX3_signOf_9 ?_
  refine fx_sipush (nI 255) dX3_signOf_10 (by decide) ?_
  refine fx_iand dX3_signOf_13 ?_
  refine fx_iret dX3_signOf_14 rfl ?_
  refine ⟨?_, rfl⟩
  have q := ml_eI_lt V.1 6 x
  rw [pk_ushrN (ml_eI_lt V.1 6 x) (nI 16) 16 (by decide), pk_andN (m := nI 255) (by omega) 8 (by decide)]
  rfl
theorem p_fo_deedOf {g : fx_G} {S : Nat → Prop} {h : fx_H} {a nw : Nat} {b : Nat → Nat} {z : Int32} (H : fo S h a b nw z) (V : ml_v b nw) (x : Int32) : fx_P g mX3_deedOf 1 23 [.ref a, .int x] h (.int (nI (ml_o b x))) := by
  obtain ⟨fs, h1⟩ := H.at
  refine fx_Met.of rfl (Nat.le_of_ble_eq_true rfl) ?_
  refine fx_aloadn dX3_deedOf_0 rfl ?_
  refine fx_bipush (nI 6) dX3_deedOf_1 (by decide) ?_
  refine fx_iloadn dX3_deedOf_3 rfl ?_
  refine fx_callVp dX3_deedOf_4 vX3_wordAt kkX3_40 rfl rfl (by assumption) (p_fo_wordAt H V 6 (by decide) _) rfl (by decide) (by decide) rfl (Nat.le_of_ble_eq_true rfl) ?_
  refine fx_bipush (nI 8) dX3_deedOf_7 (by decide) ?_
  refine fx_iushr dX3_deedOf_9 ?_
  refine fx_sipush (nI 255) dX3_deedOf_10 (by decide) ?_
  refine fx_iand dX3_deedOf_13 ?_
  refine fx_iret dX3_deedOf_14 rfl ?_
  refine ⟨?_, rfl⟩
  have q := ml_eI_lt V.1 6 x
  rw [pk_ushrN (ml_eI_lt V.1 6 x) (nI 8) 8 (by decide), pk_andN (m := nI 255) (by omega) 8 (by decide)]
  rfl
theorem p_fo_remainderOf {g : fx_G} {S : Nat → Prop} {h : fx_H} {a nw : Nat} {b : Nat → Nat} {z : Int32} (H : fo S h a b nw z) (V : ml_v b nw) (x : Int32) : fx_P g mX3_remainderOf 1 23 [.ref a, .int x] h (.int (nI (ml_r b x))) := by
  obtain ⟨fs, h1⟩ := H.at
  refine fx_Met.of rfl (Nat.le_of_ble_eq_true rfl) ?_
  refine fx_aloadn dX3_remainderOf_0 rfl ?_
  refine fx_bipush (nI 6) dX3_remainderOf_1 (by decide) ?_
  refine fx_iloadn dX3_remainderOf_3 rfl ?_
  refine fx_callVp dX3_remainderOf_4 vX3_wordAt kkX3_40 rfl rfl (by assumption) (p_fo_wordAt H V 6 (by decide) _) rfl (by decide) (by decide) rfl (Nat.le_of_ble_eq_true rfl) ?_
  refine fx_sipush (nI 255) dX3_remainderOf_7 (by decide) ?_
  refine fx_iand dX3_remainderOf_10 ?_
  refine fx_iret dX3_remainderOf_11 rfl ?_
  refine ⟨?_, rfl⟩
  rw [pk_andN (m := nI 255) (ml_eI_lt V.1 6 x) 8 (by decide)]
  rfl
theorem p_fo_designSize {g : fx_G} {S : Nat → Prop} {h : fx_H} {a nw : Nat} {b : Nat → Nat} {z : Int32} (H : fo S h a b nw z) (V : ml_v b nw) : fx_P g mX3_designSize 1 23 [.ref a] h (.int (nI (ml_e b 0 1))) := by
  obtain ⟨fs, h1⟩ := H.at
  refine fx_Met.of rfl (Nat.le_of_ble_eq_true rfl) ?_
  refine fx_aloadn dX3_designSize_0 rfl ?_
  refine fx_iconst (nI 0) dX3_designSize_1 (by decide) ?_
  refine fx_iconst (nI 1) dX3_designSize_2 (by decide) ?_
  refine fx_callVp dX3_designSize_3 vX3_wordAt kkX3_40 rfl rfl (by assumption) (p_fo_wordAt H V 0 (by decide) _) rfl (by decide) (by decide) rfl (Nat.le_of_ble_eq_true rfl) ?_
  refine fx_iret dX3_designSize_6 rfl ?_
  refine ⟨?_, rfl⟩
  rw [ml_eI_n 0 (by decide)]
theorem p_fo_tagOf {g : fx_G} {S : Nat → Prop} {h : fx_H} {a nw : Nat} {b : Nat → Nat} {z : Int32} (H : fo S h a b nw z) (V : ml_v b nw) (x : Int32) : fx_P g mX3_tagOf 1 21 [.ref a, .int x] h (.int (nI (ml_tag b x))) := by
  obtain ⟨fs, h1⟩ := H.at
  refine fx_Met.of rfl (Nat.le_of_ble_eq_true rfl) ?_
  refine fx_aloadn dX3_tagOf_0 rfl ?_
  refine fx_iloadn dX3_tagOf_1 rfl ?_
  refine fx_callVp dX3_tagOf_2 vX3_infoOf kkX3_46 rfl rfl (by assumption) (p_fo_infoOf H V _) rfl (by decide) (by decide) rfl (Nat.le_of_ble_eq_true rfl) ?_
  refine fx_bipush (nI 8) dX3_tagOf_5 (by decide) ?_
  refine fx_iushr dX3_tagOf_7 ?_
  refine fx_iconst (nI 3) dX3_tagOf_8 (by decide) ?_
  refine fx_iand dX3_tagOf_9 ?_
  refine fx_iret dX3_tagOf_10 rfl ?_
  refine ⟨?_, rfl⟩
  have q := ml_iI_lt V.1 x
  rw [pk_ushrN (ml_iI_lt V.1 x) (nI 8) 8 (by decide), pk_andN (m := nI 3) (by omega) 2 (by decide)]
  rfl
theorem p_fo_restOf {g : fx_G} {S : Nat → Prop} {h : fx_H} {a nw : Nat} {b : Nat → Nat} {z : Int32} (H : fo S h a b nw z) (V : ml_v b nw) (x : Int32) : fx_P g mX3_restOf 1 21 [.ref a, .int x] h (.int (nI (ml_rest b x))) := by
  obtain ⟨fs, h1⟩ := H.at
  refine fx_Met.of rfl (Nat.le_of_ble_eq_true rfl) ?_
  refine fx_aloadn dX3_restOf_0 rfl ?_
  refine fx_iloadn dX3_restOf_1 rfl ?_
  refine fx_callVp dX3_restOf_2 vX3_infoOf kkX3_46 rfl rfl (by assumption) (p_fo_infoOf H V _) rfl (by decide) (by decide) rfl (Nat.le_of_ble_eq_true rfl) ?_
  refine fx_sipush (nI 255) dX3_restOf_5 (by decide) ?_
  refine fx_iand dX3_restOf_8 ?_
  refine fx_iret dX3_restOf_9 rfl ?_
  refine ⟨?_, rfl⟩
  rw [pk_andN (m := nI 255) (ml_iI_lt V.1 x) 8 (by decide)]
  rfl
theorem p_fo_hasCharacter {g : fx_G} {S : Nat → Prop} {h : fx_H} {a nw : Nat} {b : Nat → Nat} {z : Int32} (H : fo S h a b nw z) (V : ml_v b nw) (x : Int32) : fx_P g mX3_hasCharacter 1 21 [.ref a, .int x] h (.int (bI (ml_iI b x ≠ 0))) := by
  obtain ⟨fs, h1⟩ := H.at
  refine fx_Met.of rfl (Nat.le_of_ble_eq_true rfl) ?_
  refine fx_aloadn dX3_hasCharacter_0 rfl ?_
  refine fx_iloadn dX3_hasCharacter_1 rfl ?_
  refine fx_callVp dX3_hasCharacter_2 vX3_infoOf kkX3_46 rfl rfl (by assumption) (p_fo_infoOf H V _) rfl (by decide) (by decide) rfl (Nat.le_of_ble_eq_true rfl) ?_
  refine fx_if_eq 12 dX3_hasCharacter_5 (by decide) (fun c5 => ?_) (fun c5 => ?_)
  · skip
    refine fx_iconst (nI 0) dX3_hasCharacter_12 (by decide) ?_
    refine fx_zret dX3_hasCharacter_13 rfl rfl ?_
    exact ⟨by rw [bI_f (fun q => q ((nI_eq0 (ml_iI_lt V.1 x)).mp c5))], rfl⟩
  · skip
    refine fx_iconst (nI 1) dX3_hasCharacter_8 (by decide) ?_
    refine fx_goto 13 dX3_hasCharacter_9 (by decide) ?_
    refine fx_zret dX3_hasCharacter_13 rfl rfl ?_
    exact ⟨by rw [bI_t (fun q => c5 (by rw [q]; rfl))], rfl⟩
theorem p_fo_isJump {g : fx_G} {S : Nat → Prop} {h : fx_H} {a nw : Nat} {b : Nat → Nat} {z : Int32} (H : fo S h a b nw z) (V : ml_v b nw) (x : Int32) : fx_P g mX3_isJump 2 44 [.ref a, .int x] h (.int (bI (128 < ml_s b x))) := by
  obtain ⟨fs, h1⟩ := H.at
  refine fx_Met.of rfl (Nat.le_of_ble_eq_true rfl) ?_
  refine fx_aloadn dX3_isJump_0 rfl ?_
  refine fx_iloadn dX3_isJump_1 rfl ?_
  refine fx_callVp dX3_isJump_2 vX3_skipOf kkX3_61 rfl rfl (by assumption) (p_fo_skipOf H V _) rfl (by decide) (by decide) rfl (Nat.le_of_ble_eq_true rfl) ?_
  refine fx_sipush (nI 128) dX3_isJump_5 (by decide) ?_
  refine fx_icmp_le 15 dX3_isJump_8 (by decide) (fun c8 => ?_) (fun c8 => ?_)
  · skip
    refine fx_iconst (nI 0) dX3_isJump_15 (by decide) ?_
    refine fx_zret dX3_isJump_16 rfl rfl ?_
    exact ⟨by rw [bI_f (fun q => nI_ge q (by have := ml_s_lt V.1 x; omega) c8)], rfl⟩
  · skip
    refine fx_iconst (nI 1) dX3_isJump_11 (by decide) ?_
    refine fx_goto 16 dX3_isJump_12 (by decide) ?_
    refine fx_zret dX3_isJump_16 rfl rfl ?_
    exact ⟨by rw [bI_t (Nat.lt_of_not_le (fun q => c8 (nI_le q (by decide))))], rfl⟩
theorem p_fo_isKern {g : fx_G} {S : Nat → Prop} {h : fx_H} {a nw : Nat} {b : Nat → Nat} {z : Int32} (H : fo S h a b nw z) (V : ml_v b nw) (x : Int32) : fx_P g mX3_isKern 2 44 [.ref a, .int x] h (.int (bI (128 ≤ ml_o b x))) := by
  obtain ⟨fs, h1⟩ := H.at
  refine fx_Met.of rfl (Nat.le_of_ble_eq_true rfl) ?_
  refine fx_aloadn dX3_isKern_0 rfl ?_
  refine fx_iloadn dX3_isKern_1 rfl ?_
  refine fx_callVp dX3_isKern_2 vX3_deedOf kkX3_64 rfl rfl (by assumption) (p_fo_deedOf H V _) rfl (by decide) (by decide) rfl (Nat.le_of_ble_eq_true rfl) ?_
  refine fx_sipush (nI 128) dX3_isKern_5 (by decide) ?_
  refine fx_icmp_lt 15 dX3_isKern_8 (by decide) (fun c8 => ?_) (fun c8 => ?_)
  · skip
    refine fx_iconst (nI 0) dX3_isKern_15 (by decide) ?_
    refine fx_zret dX3_isKern_16 rfl rfl ?_
    exact ⟨by rw [bI_f (fun q => nI_nlt q (by have := ml_o_lt (b := b) x; omega) c8)], rfl⟩
  · skip
    refine fx_iconst (nI 1) dX3_isKern_11 (by decide) ?_
    refine fx_goto 16 dX3_isKern_12 (by decide) ?_
    refine fx_zret dX3_isKern_16 rfl rfl ?_
    exact ⟨by rw [bI_t (Nat.le_of_not_lt (fun q => c8 (nI_lt q (by decide))))], rfl⟩
theorem p_fo_targetOf {g : fx_G} {S : Nat → Prop} {h : fx_H} {a nw : Nat} {b : Nat → Nat} {z : Int32} (H : fo S h a b nw z) (V : ml_v b nw) (x : Int32) : fx_P g mX3_targetOf 2 44 [.ref a, .int x] h (.int (nI (256 * ml_o b x + ml_r b x))) := by
  obtain ⟨fs, h1⟩ := H.at
  refine fx_Met.of rfl (Nat.le_of_ble_eq_true rfl) ?_
  refine fx_sipush (nI 256) dX3_targetOf_0 (by decide) ?_
  refine fx_aloadn dX3_targetOf_3 rfl ?_
  refine fx_iloadn dX3_targetOf_4 rfl ?_
  refine fx_callVp dX3_targetOf_5 vX3_deedOf kkX3_64 rfl rfl (by assumption) (p_fo_deedOf H V _) rfl (by decide) (by decide) rfl (Nat.le_of_ble_eq_true rfl) ?_
  refine fx_imul dX3_targetOf_8 ?_
  refine fx_aloadn dX3_targetOf_9 rfl ?_
  refine fx_iloadn dX3_targetOf_10 rfl ?_
  refine fx_callVp dX3_targetOf_11 vX3_remainderOf kkX3_67 rfl rfl (by assumption) (p_fo_remainderOf H V _) rfl (by decide) (by decide) rfl (Nat.le_of_ble_eq_true rfl) ?_
  refine fx_iadd dX3_targetOf_14 ?_
  refine fx_iret dX3_targetOf_15 rfl ?_
  exact ⟨by rw [pk_mul, nI_add], rfl⟩
theorem p_fo_kernPlaceOf {g : fx_G} {S : Nat → Prop} {h : fx_H} {a nw : Nat} {b : Nat → Nat} {z : Int32} (H : fo S h a b nw z) (V : ml_v b nw) (x : Int32) (hx : 128 ≤ ml_o b x) : fx_P g mX3_kernPlaceOf 2 44 [.ref a, .int x] h (.int (nI (256 * (ml_o b x - 128) + ml_r b x))) := by
  obtain ⟨fs, h1⟩ := H.at
  refine fx_Met.of rfl (Nat.le_of_ble_eq_true rfl) ?_
  refine fx_sipush (nI 256) dX3_kernPlaceOf_0 (by decide) ?_
  refine fx_aloadn dX3_kernPlaceOf_3 rfl ?_
  refine fx_iloadn dX3_kernPlaceOf_4 rfl ?_
  refine fx_callVp dX3_kernPlaceOf_5 vX3_deedOf kkX3_64 rfl rfl (by assumption) (p_fo_deedOf H V _) rfl (by decide) (by decide) rfl (Nat.le_of_ble_eq_true rfl) ?_
  refine fx_sipush (nI 128) dX3_kernPlaceOf_8 (by decide) ?_
  refine fx_isub dX3_kernPlaceOf_11 ?_
  refine fx_imul dX3_kernPlaceOf_12 ?_
  refine fx_aloadn dX3_kernPlaceOf_13 rfl ?_
  refine fx_iloadn dX3_kernPlaceOf_14 rfl ?_
  refine fx_callVp dX3_kernPlaceOf_15 vX3_remainderOf kkX3_67 rfl rfl (by assumption) (p_fo_remainderOf H V _) rfl (by decide) (by decide) rfl (Nat.le_of_ble_eq_true rfl) ?_
  refine fx_iadd dX3_kernPlaceOf_18 ?_
  refine fx_iret dX3_kernPlaceOf_19 rfl ?_
  exact ⟨by rw [pk_sub hx, pk_mul, nI_add], rfl⟩
