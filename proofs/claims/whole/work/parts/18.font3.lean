/-! FontDesk$Font: its constructor -/
theorem dr.kept {h h' : fx_H} {a p n len : Nat} {B : Nat → Nat} (H : dr h a p n len B) (ha : h' a = h a) (hp : h' p = h p) : dr h' a p n len B := by
  obtain ⟨h1, h2, h3, f, h4, h5, h6⟩ := H
  exact ⟨ha.trans h1, h2, h3, f, hp.trans h4, h5, h6⟩
theorem dr.np {h : fx_H} {a p n len : Nat} {B : Nat → Nat} (H : dr h a p n len B) : ∃ x : Nat × vp_A, h p = some (.inl x) ∧ x.1 = 1 := by
  obtain ⟨h1, h2, h3, f, h4, h5, h6⟩ := H
  exact ⟨_, h4, rfl⟩
/-- a font that is being made: its cells, all apart, and the draft beside it -/
def fi (h : fx_H) (a pw ps pl pi nw : Nat) (fw fs fl fz : Nat → Int32) : Prop := h a = some (.inr (2, [.ref pw, .ref ps, .ref pl, .ref pi, .int (nI 0)])) ∧ h pw = some (.inl (0, nw, .inl fw)) ∧ h ps = some (.inl (0, 10, .inl fs)) ∧ h pl = some (.inl (0, 10, .inl fl)) ∧ h pi = some (.inl (0, 256, .inl fz))
def fap (pw ps pl pi : Nat) : Prop := pw ≠ ps ∧ pw ≠ pl ∧ pw ≠ pi ∧ ps ≠ pl ∧ ps ≠ pi ∧ pl ≠ pi
theorem fi.setw {h h' : fx_H} {a pw ps pl pi nw : Nat} {fw fs fl fz f' : Nat → Int32} (F : fi h a pw ps pl pi nw fw fs fl fz) (N : fap pw ps pl pi) (e : h' pw = some (.inl (0, nw, .inl f'))) (o : ∀ x, x ≠ pw → h' x = h x) : fi h' a pw ps pl pi nw f' fs fl fz :=
  ⟨(o _ (ne_oa F.1 F.2.1)).trans F.1, e, (o _ (Ne.symm N.1)).trans F.2.2.1, (o _ (Ne.symm N.2.1)).trans F.2.2.2.1, (o _ (Ne.symm N.2.2.1)).trans F.2.2.2.2⟩
theorem fi.sets {h h' : fx_H} {a pw ps pl pi nw : Nat} {fw fs fl fz f' : Nat → Int32} (F : fi h a pw ps pl pi nw fw fs fl fz) (N : fap pw ps pl pi) (e : h' ps = some (.inl (0, 10, .inl f'))) (o : ∀ x, x ≠ ps → h' x = h x) : fi h' a pw ps pl pi nw fw f' fl fz :=
  ⟨(o _ (ne_oa F.1 F.2.2.1)).trans F.1, (o _ N.1).trans F.2.1, e, (o _ (Ne.symm N.2.2.2.1)).trans F.2.2.2.1, (o _ (Ne.symm N.2.2.2.2.1)).trans F.2.2.2.2⟩
theorem fi.setl {h h' : fx_H} {a pw ps pl pi nw : Nat} {fw fs fl fz f' : Nat → Int32} (F : fi h a pw ps pl pi nw fw fs fl fz) (N : fap pw ps pl pi) (e : h' pl = some (.inl (0, 10, .inl f'))) (o : ∀ x, x ≠ pl → h' x = h x) : fi h' a pw ps pl pi nw fw fs f' fz :=
  ⟨(o _ (ne_oa F.1 F.2.2.2.1)).trans F.1, (o _ N.2.1).trans F.2.1, (o _ N.2.2.2.1).trans F.2.2.1, e, (o _ (Ne.symm N.2.2.2.2.2)).trans F.2.2.2.2⟩
theorem fi.setz {h h' : fx_H} {a pw ps pl pi nw : Nat} {fw fs fl fz f' : Nat → Int32} (F : fi h a pw ps pl pi nw fw fs fl fz) (N : fap pw ps pl pi) (e : h' pi = some (.inl (0, 256, .inl f'))) (o : ∀ x, x ≠ pi → h' x = h x) : fi h' a pw ps pl pi nw fw fs fl f' :=
  ⟨(o _ (ne_oa F.1 F.2.2.2.2)).trans F.1, (o _ N.2.2.1).trans F.2.1, (o _ N.2.2.2.2.1).trans F.2.2.1, (o _ N.2.2.2.2.2).trans F.2.2.2.1, e⟩
theorem dr.set0 {h h' : fx_H} {d p n len q : Nat} {B : Nat → Nat} {x : vp_A} (H : dr h d p n len B) (hq : h q = some (.inl (0, x))) (o : ∀ x, x ≠ q → h' x = h x) : dr h' d p n len B := by
  obtain ⟨y, hy, hy1⟩ := H.np
  obtain ⟨y1, y2⟩ := y
  subst hy1
  exact H.kept (o _ (ne_oa H.1 hq)) (o _ (ne_aa hy hq (by decide)))

theorem p_fi_wordAt {g : fx_G} {h : fx_H} {a nw pw ps pl pi : Nat} {b : Nat → Nat} {fw fs fl fz : Nat → Int32} (F : fi h a pw ps pl pi nw fw fs fl fz) (V : ml_v b nw) (h6 : ∀ k, k < nw → fw k = nI (ml_W b k)) (h7 : ∀ r, r < 10 → fs r = nI (ml_st b r) ∧ fl r = nI (ml_rl b r)) (r : Nat) (hr : r < 10) (x : Int32) : fx_P g mX3_wordAt 0 0 [.ref a, .int (nI r), .int x] h (.int (nI (ml_eI b r x))) := by
  obtain ⟨h1, h2, h3, h4, h5⟩ := F
  refine fx_Met.of rfl (Nat.le_of_ble_eq_true rfl) ?_
  have hq1 := V.row hr
  have hq2 := V.nw
  by_cases hx : x < 0
  · skip
    refine fx_iloadn dX3_wordAt_0 rfl ?_
    refine fx_if_lt 24 dX3_wordAt_1 (by decide) (fun c1 => absurd c1 (nI_pos (by omega))) (fun c1 => ?_)
    refine fx_iloadn dX3_wordAt_4 rfl ?_
    refine fx_bipush (nI 10) dX3_wordAt_5 (by decide) ?_
    refine fx_icmp_ge 24 dX3_wordAt_7 (by decide) (fun c7 => absurd c7 (nI_ge hr (by decide))) (fun c7 => ?_)
    refine fx_iloadn dX3_wordAt_10 rfl ?_
    refine fx_if_lt 24 dX3_wordAt_11 (by decide) (fun c11 => ?_) (fun c11 => absurd (hx) c11)
    refine fx_iconst (nI 0) dX3_wordAt_24 (by decide) ?_
    refine fx_iret dX3_wordAt_25 rfl ?_
    exact ⟨by rw [ml_eI_m r hx], rfl⟩
  · obtain ⟨j, hj, rfl⟩ := nI_of hx
    by_cases hk : j < ml_rl b r
    · skip
      refine fx_iloadn dX3_wordAt_0 rfl ?_
      refine fx_if_lt 24 dX3_wordAt_1 (by decide) (fun c1 => absurd c1 (nI_pos (by omega))) (fun c1 => ?_)
      refine fx_iloadn dX3_wordAt_4 rfl ?_
      refine fx_bipush (nI 10) dX3_wordAt_5 (by decide) ?_
      refine fx_icmp_ge 24 dX3_wordAt_7 (by decide) (fun c7 => absurd c7 (nI_ge hr (by decide))) (fun c7 => ?_)
      refine fx_iloadn dX3_wordAt_10 rfl ?_
      refine fx_if_lt 24 dX3_wordAt_11 (by decide) (fun c11 => absurd c11 (nI_pos hj)) (fun c11 => ?_)
      refine fx_iloadn dX3_wordAt_14 rfl ?_
      refine fx_aloadn dX3_wordAt_15 rfl ?_
      refine fx_get dX3_wordAt_16 ffX3_15 (by assumption) rfl ?_
      refine fx_iloadn dX3_wordAt_19 rfl ?_
      refine fx_iald dX3_wordAt_20 (by assumption) (vp_in_nI hr (by decide)) ?_
      rw [nI_clamp (show r < 2 ^ 31 by omega), (h7 r hr).2]
      refine fx_icmp_lt 26 dX3_wordAt_21 (by decide) (fun c21 => ?_) (fun c21 => absurd (nI_lt hk (by omega)) c21)
      refine fx_aloadn dX3_wordAt_26 rfl ?_
      refine fx_get dX3_wordAt_27 ffX3_11 (by assumption) rfl ?_
      refine fx_iloadn dX3_wordAt_30 rfl ?_
      refine fx_iald dX3_wordAt_31 (by assumption) (vp_in_nI hr (by decide)) ?_
      rw [nI_clamp (show r < 2 ^ 31 by omega), (h7 r hr).1]
      refine fx_iloadn dX3_wordAt_32 rfl ?_
      refine fx_iadd dX3_wordAt_33 ?_
      rw [nI_add]
      refine fx_istoren dX3_wordAt_34 (by decide) ?_
      refine fx_iloadn dX3_wordAt_35 rfl ?_
      refine fx_if_lt 57 dX3_wordAt_36 (by decide) (fun c36 => absurd c36 (nI_pos (by omega))) (fun c36 => ?_)
      refine fx_iloadn dX3_wordAt_39 rfl ?_
      refine fx_aloadn dX3_wordAt_40 rfl ?_
      refine fx_get dX3_wordAt_41 ffX3_30 (by assumption) rfl ?_
      refine fx_alenI dX3_wordAt_44 (by assumption) (by decide) ?_
      refine fx_icmp_ge 57 dX3_wordAt_45 (by decide) (fun c45 => absurd c45 (nI_ge (show ml_st b r + j < nw by omega) (by omega))) (fun c45 => ?_)
      refine fx_aloadn dX3_wordAt_48 rfl ?_
      refine fx_get dX3_wordAt_49 ffX3_30 (by assumption) rfl ?_
      refine fx_iloadn dX3_wordAt_52 rfl ?_
      refine fx_iald dX3_wordAt_53 (by assumption) (vp_in_nI (show ml_st b r + j < nw by omega) (by omega)) ?_
      rw [nI_clamp (show ml_st b r + j < 2 ^ 31 by omega), h6 _ (by omega)]
      refine fx_goto 58 dX3_wordAt_54 (by decide) ?_
      refine fx_iret dX3_wordAt_58 rfl ?_
      refine ⟨?_, rfl⟩
      rw [ml_eI_n r hj]
      unfold ml_e
      rw [if_pos hk]
    · skip
      refine fx_iloadn dX3_wordAt_0 rfl ?_
      refine fx_if_lt 24 dX3_wordAt_1 (by decide) (fun c1 => absurd c1 (nI_pos (by omega))) (fun c1 => ?_)
      refine fx_iloadn dX3_wordAt_4 rfl ?_
      refine fx_bipush (nI 10) dX3_wordAt_5 (by decide) ?_
      refine fx_icmp_ge 24 dX3_wordAt_7 (by decide) (fun c7 => absurd c7 (nI_ge hr (by decide))) (fun c7 => ?_)
      refine fx_iloadn dX3_wordAt_10 rfl ?_
      refine fx_if_lt 24 dX3_wordAt_11 (by decide) (fun c11 => absurd c11 (nI_pos hj)) (fun c11 => ?_)
      refine fx_iloadn dX3_wordAt_14 rfl ?_
      refine fx_aloadn dX3_wordAt_15 rfl ?_
      refine fx_get dX3_wordAt_16 ffX3_15 (by assumption) rfl ?_
      refine fx_iloadn dX3_wordAt_19 rfl ?_
      refine fx_iald dX3_wordAt_20 (by assumption) (vp_in_nI hr (by decide)) ?_
      rw [nI_clamp (show r < 2 ^ 31 by omega), (h7 r hr).2]
      refine fx_icmp_lt 26 dX3_wordAt_21 (by decide) (fun c21 => absurd c21 (nI_nlt (by omega) hj)) (fun c21 => ?_)
      refine fx_iconst (nI 0) dX3_wordAt_24 (by decide) ?_
      refine fx_iret dX3_wordAt_25 rfl ?_
      refine ⟨?_, rfl⟩
      rw [ml_eI_n r hj]
      unfold ml_e
      rw [if_neg hk]

theorem l_fi_D {g : fx_G} {h0 : fx_H} {a len nw pw ps pl pi cu su : Nat} {B : Nat → Nat} (V : ml_v (by_ B len) nw) (hlen : len = 4 * nw) (N : fap pw ps pl pi) (hn : h0 pw = none ∧ h0 ps = none ∧ h0 pl = none ∧ h0 pi = none) (fw fs fl : Nat → Int32) (h6 : ∀ k, k < nw → fw k = nI (ml_W (by_ B len) k)) (h7 : ∀ r, r < 10 → fs r = nI (ml_st (by_ B len) r) ∧ fl r = nI (ml_rl (by_ B len) r)) : ∀ (n' : Nat) (h : fx_H) (c : Nat) (fz : Nat → Int32), c + n' = 256 → fi h a pw ps pl pi nw fw fs fl fz → (∀ j, j < c → fz j = nI (ml_i (by_ B len) j)) → kp (fun x => x = a) h0 h → fx_Y g mX3_init 3 63 (fun r h' => r = none ∧ ∃ pw ps pl pi fw fs fl fz, fi h' a pw ps pl pi nw fw fs fl fz ∧ (∀ k, k < nw → fw k = nI (ml_W (by_ B len) k)) ∧ (∀ r, r < 10 → fs r = nI (ml_st (by_ B len) r) ∧ fl r = nI (ml_rl (by_ B len) r)) ∧ (∀ c, c < 256 → fz c = nI (ml_i (by_ B len) c)) ∧ h0 pw = none ∧ h0 ps = none ∧ h0 pl = none ∧ h0 pi = none ∧ kp (fun x => x = a) h0 h') (fun _ _ => False) 173 [(0, .ref a), (2, .int (nI (ml_H (by_ B len) 2))), (4, .int (nI c))] [] h cu su := by
  have w2 := V.w.2.1 2 (by decide)
  intro n'
  induction n' using Nat.strongRecOn with
  | ind n' ih =>
  intro h c fz hc F hz hk
  obtain ⟨f1, f2, f3, f4, f5⟩ := id F
  refine fx_iload dX3_init_173 rfl ?_
  refine fx_sipush (nI 256) dX3_init_175 (by decide) ?_
  refine fx_icn_ge 219 dX3_init_178 (by decide) (by omega) (by omega) (fun c178 => ?_) (fun c178 => ?_)
  · skip
    refine fx_vret dX3_init_219 rfl ?_
    exact ⟨rfl, pw, ps, pl, pi, fw, fs, fl, fz, F, h6, h7, fun j hj => hz j (by omega), hn.1, hn.2.1, hn.2.2.1, hn.2.2.2, hk⟩
  · skip
    refine fx_aloadn dX3_init_181 rfl ?_
    refine fx_iconst (nI 1) dX3_init_182 (by decide) ?_
    refine fx_iload dX3_init_183 rfl ?_
    refine fx_iloadn dX3_init_185 rfl ?_
    refine fx_isub dX3_init_186 ?_
    obtain ⟨f1, f2, f3, f4, f5⟩ := id F
    refine fx_callVp dX3_init_187 vX3_wordAt kkX3_40 rfl rfl f1 (p_fi_wordAt F V h6 h7 1 (by decide) _) rfl (by decide) (by decide) rfl (Nat.le_of_ble_eq_true rfl) ?_
    refine fx_istore dX3_init_190 (by decide) ?_
    refine fx_aloadn dX3_init_192 rfl ?_
    refine fx_get dX3_init_193 ffX3_18 (by assumption) rfl ?_
    refine fx_iload dX3_init_196 rfl ?_
    refine fx_iload dX3_init_198 rfl ?_
    refine fx_bipush (nI 24) dX3_init_200 (by decide) ?_
    refine fx_iushr dX3_init_202 ?_
    rw [pk_ushrN (ml_eI_lt V.1 1 _) (nI 24) 24 (by decide)]
    have q9 := ml_eI_lt V.1 1 (nI c - nI (ml_H (by_ B len) 2))
    have hin : (if ml_eI (by_ B len) 1 (nI c - nI (ml_H (by_ B len) 2)) / 2 ^ 24 = 0 then 0 else ml_eI (by_ B len) 1 (nI c - nI (ml_H (by_ B len) 2))) = ml_i (by_ B len) c := by
      by_cases e : ml_H (by_ B len) 2 ≤ c
      · rw [pk_sub e, ml_eI_n 1 (by omega)]
        have q8 := ml_e_lt V.1 1 (c - ml_H (by_ B len) 2)
        unfold ml_i
        by_cases e2 : ml_e (by_ B len) 1 (c - ml_H (by_ B len) 2) / 2 ^ 24 = 0
        · rw [if_pos e2, if_neg (by omega)]
        · rw [if_neg e2, if_pos (by omega)]
      · rw [ml_eI_m 1 (pk_sneg (by omega) (by omega)), ml_i_out (Or.inl (by omega))]
        rfl
    have j212 : ∀ (lv : List (Nat × Value)) (v : Int32), fx_le [(0, .ref a), (2, .int (nI (ml_H (by_ B len) 2))), (4, .int (nI c))] lv → v = nI (ml_i (by_ B len) c) → fx_Y g mX3_init 3 63 (fun r h' => r = none ∧ ∃ pw ps pl pi fw fs fl fz, fi h' a pw ps pl pi nw fw fs fl fz ∧ (∀ k, k < nw → fw k = nI (ml_W (by_ B len) k)) ∧ (∀ r, r < 10 → fs r = nI (ml_st (by_ B len) r) ∧ fl r = nI (ml_rl (by_ B len) r)) ∧ (∀ c, c < 256 → fz c = nI (ml_i (by_ B len) c)) ∧ h0 pw = none ∧ h0 ps = none ∧ h0 pl = none ∧ h0 pi = none ∧ kp (fun x => x = a) h0 h') (fun _ _ => False) 212 lv [.int v, .int (nI c), .ref pi] h cu su := by
      intro lv v hlv hv
      refine fx_sub _ hlv ?_
      refine fx_iastV dX3_init_212 (by assumption) (vp_in_nI c178 (by decide)) (fun h1 e1 o1 => ?_)
      refine fx_iinc (nI 1) dX3_init_213 rfl (by decide) (by decide) ?_
      refine fx_goto 173 dX3_init_216 (by decide) ?_
      simp only [nI_add]
      rw [nI_clamp (by omega)] at e1
      refine fx_to (ih (n' - 1) (by omega) h1 (c + 1) _ (by omega) (F.setz N e1 o1) (fun j hj => ?_) (kp.put hk o1 (Or.inr hn.2.2.2))) ⟨rfl, rfl, rfl, trivial⟩
      by_cases e : j = c
      · subst e
        rw [pk_us, hv]
      · rw [pk_un e]
        exact hz j (by omega)
    refine fx_ifn_ne 210 dX3_init_203 (by decide) (by omega) (fun c203 => ?_) (fun c203 => ?_)
    · refine fx_iload dX3_init_210 rfl ?_
      exact j212 _ _ ⟨rfl, rfl, rfl, trivial⟩ (by rw [← hin, if_neg c203])
    · refine fx_iconst (nI 0) dX3_init_206 (by decide) ?_
      refine fx_goto 212 dX3_init_207 (by decide) ?_
      exact j212 _ _ ⟨rfl, rfl, rfl, trivial⟩ (by rw [← hin, if_pos c203])
theorem l_fi_C {g : fx_G} {h0 : fx_H} {a len nw pw ps pl pi cu su : Nat} {B : Nat → Nat} (V : ml_v (by_ B len) nw) (hlen : len = 4 * nw) (N : fap pw ps pl pi) (hn : h0 pw = none ∧ h0 ps = none ∧ h0 pl = none ∧ h0 pi = none) (fw fl fz : Nat → Int32) (h6 : ∀ k, k < nw → fw k = nI (ml_W (by_ B len) k)) (hl9 : ∀ r, r < 10 → fl r = nI (ml_rl (by_ B len) r)) : ∀ (n' : Nat) (h : fx_H) (r : Nat) (fs : Nat → Int32), r + n' = 10 → fi h a pw ps pl pi nw fw fs fl fz → (∀ j, j < r → fs j = nI (ml_st (by_ B len) j)) → kp (fun x => x = a) h0 h → fx_Y g mX3_init 3 63 (fun r h' => r = none ∧ ∃ pw ps pl pi fw fs fl fz, fi h' a pw ps pl pi nw fw fs fl fz ∧ (∀ k, k < nw → fw k = nI (ml_W (by_ B len) k)) ∧ (∀ r, r < 10 → fs r = nI (ml_st (by_ B len) r) ∧ fl r = nI (ml_rl (by_ B len) r)) ∧ (∀ c, c < 256 → fz c = nI (ml_i (by_ B len) c)) ∧ h0 pw = none ∧ h0 ps = none ∧ h0 pl = none ∧ h0 pi = none ∧ kp (fun x => x = a) h0 h') (fun _ _ => False) 139 [(0, .ref a), (2, .int (nI (ml_H (by_ B len) 2))), (3, .int (nI (ml_st (by_ B len) r))), (4, .int (nI r))] [] h cu su := by
  intro n'
  induction n' using Nat.strongRecOn with
  | ind n' ih =>
  intro h r fs hc F hs hk
  obtain ⟨f1, f2, f3, f4, f5⟩ := id F
  refine fx_iload dX3_init_139 rfl ?_
  refine fx_bipush (nI 10) dX3_init_141 (by decide) ?_
  refine fx_icn_ge 170 dX3_init_143 (by decide) (by omega) (by omega) (fun c143 => ?_) (fun c143 => ?_)
  · skip
    refine fx_iconst (nI 0) dX3_init_170 (by decide) ?_
    refine fx_istore dX3_init_171 (by decide) ?_
    exact fx_to (l_fi_D V hlen N hn fw fs fl h6 (fun j hj => ⟨hs j (by omega), hl9 j hj⟩) 256 h 0 fz rfl F (fun j hj => by omega) hk) ⟨rfl, rfl, rfl, trivial⟩
  · skip
    refine fx_aloadn dX3_init_146 rfl ?_
    refine fx_get dX3_init_147 ffX3_11 (by assumption) rfl ?_
    refine fx_iload dX3_init_150 rfl ?_
    refine fx_iloadn dX3_init_152 rfl ?_
    refine fx_iastV dX3_init_153 (by assumption) (vp_in_nI c143 (by decide)) (fun h1 e1 o1 => ?_)
    rw [nI_clamp (by omega)] at e1
    have F1 := F.sets N e1 o1
    obtain ⟨g1, g2, g3, g4, g5⟩ := id F1
    refine fx_iloadn dX3_init_154 rfl ?_
    refine fx_aloadn dX3_init_155 rfl ?_
    refine fx_get dX3_init_156 ffX3_15 (by assumption) rfl ?_
    refine fx_iload dX3_init_159 rfl ?_
    refine fx_iald dX3_init_161 (by assumption) (vp_in_nI c143 (by decide)) ?_
    rw [nI_clamp (by omega), hl9 r c143]
    refine fx_iadd dX3_init_162 ?_
    rw [nI_add]
    refine fx_istoren dX3_init_163 (by decide) ?_
    refine fx_iinc (nI 1) dX3_init_164 rfl (by decide) (by decide) ?_
    refine fx_goto 139 dX3_init_167 (by decide) ?_
    simp only [nI_add]
    refine fx_to (ih (n' - 1) (by omega) h1 (r + 1) _ (by omega) F1 (fun j hj => ?_) (kp.put hk o1 (Or.inr hn.2.1))) ⟨rfl, rfl, rfl, rfl, trivial⟩
    by_cases e : j = r
    · subst e
      rw [pk_us]
    · rw [pk_un e]
      exact hs j (by omega)
theorem l_fi_B {g : fx_G} {h0 : fx_H} {a dd p n len nw pw ps pl pi cu su : Nat} {B : Nat → Nat} (V : ml_v (by_ B len) nw) (hlen : len = 4 * nw) (N : fap pw ps pl pi) (hn : h0 pw = none ∧ h0 ps = none ∧ h0 pl = none ∧ h0 pi = none) (fw fs fz : Nat → Int32) (h6 : ∀ k, k < nw → fw k = nI (ml_W (by_ B len) k)) : ∀ (n' : Nat) (h : fx_H) (r : Nat) (fl : Nat → Int32), 2 ≤ r → r + n' = 10 → fi h a pw ps pl pi nw fw fs fl fz → dr h dd p n len B → (∀ j, j < r → fl j = nI (ml_rl (by_ B len) j)) → kp (fun x => x = a) h0 h → fx_Y g mX3_init 3 63 (fun r h' => r = none ∧ ∃ pw ps pl pi fw fs fl fz, fi h' a pw ps pl pi nw fw fs fl fz ∧ (∀ k, k < nw → fw k = nI (ml_W (by_ B len) k)) ∧ (∀ r, r < 10 → fs r = nI (ml_st (by_ B len) r) ∧ fl r = nI (ml_rl (by_ B len) r)) ∧ (∀ c, c < 256 → fz c = nI (ml_i (by_ B len) c)) ∧ h0 pw = none ∧ h0 ps = none ∧ h0 pl = none ∧ h0 pi = none ∧ kp (fun x => x = a) h0 h') (fun _ _ => False) 108 [(0, .ref a), (1, .ref dd), (2, .int (nI (ml_H (by_ B len) 2))), (3, .int (nI r))] [] h cu su := by
  intro n'
  induction n' using Nat.strongRecOn with
  | ind n' ih =>
  intro h r fl hr2 hc F HD hl9 hk
  obtain ⟨f1, f2, f3, f4, f5⟩ := id F
  refine fx_iloadn dX3_init_108 rfl ?_
  refine fx_bipush (nI 10) dX3_init_109 (by decide) ?_
  refine fx_icn_ge 133 dX3_init_111 (by decide) (by omega) (by omega) (fun c111 => ?_) (fun c111 => ?_)
  · skip
    refine fx_bipush (nI 6) dX3_init_133 (by decide) ?_
    refine fx_istoren dX3_init_135 (by decide) ?_
    refine fx_iconst (nI 0) dX3_init_136 (by decide) ?_
    refine fx_istore dX3_init_137 (by decide) ?_
    exact fx_to (l_fi_C V hlen N hn fw fl fz h6 (fun j hj => hl9 j (by omega)) 10 h 0 fs rfl F (fun j hj => by omega) hk) ⟨rfl, rfl, rfl, rfl, trivial⟩
  · skip
    refine fx_aloadn dX3_init_114 rfl ?_
    refine fx_get dX3_init_115 ffX3_15 (by assumption) rfl ?_
    refine fx_iloadn dX3_init_118 rfl ?_
    refine fx_aloadn dX3_init_119 rfl ?_
    refine fx_iloadn dX3_init_120 rfl ?_
    refine fx_iconst (nI 2) dX3_init_121 (by decide) ?_
    refine fx_iadd dX3_init_122 ?_
    rw [nI_add]
    have hd1 := HD.1
    refine fx_callVp dX3_init_123 vX0_halfAt kkX3_37 rfl rfl (by assumption) (p_dr_half HD _ (by omega)) rfl (by decide) (by decide) rfl (Nat.le_of_ble_eq_true rfl) ?_
    refine fx_iastV dX3_init_126 (by assumption) (vp_in_nI c111 (by decide)) (fun h1 e1 o1 => ?_)
    rw [nI_clamp (by omega)] at e1
    refine fx_iinc (nI 1) dX3_init_127 rfl (by decide) (by decide) ?_
    refine fx_goto 108 dX3_init_130 (by decide) ?_
    simp only [nI_add]
    refine fx_to (ih (n' - 1) (by omega) h1 (r + 1) _ (by omega) (by omega) (F.setl N e1 o1) (HD.set0 f4 o1) (fun j hj => ?_) (kp.put hk o1 (Or.inr hn.2.2.1))) ⟨rfl, rfl, rfl, rfl, trivial⟩
    by_cases e : j = r
    · subst e
      rw [pk_us]
      unfold ml_rl
      rw [if_neg (by omega), if_neg (by omega)]
    · rw [pk_un e]
      exact hl9 j (by omega)
theorem l_fi_B0 {g : fx_G} {h0 : fx_H} {a dd p n len nw pw ps pl pi cu su : Nat} {B : Nat → Nat} (V : ml_v (by_ B len) nw) (hlen : len = 4 * nw) (N : fap pw ps pl pi) (hn : h0 pw = none ∧ h0 ps = none ∧ h0 pl = none ∧ h0 pi = none) (fw fs fl fz : Nat → Int32) (h6 : ∀ k, k < nw → fw k = nI (ml_W (by_ B len) k)) (h : fx_H) (F : fi h a pw ps pl pi nw fw fs fl fz) (HD : dr h dd p n len B) (hk : kp (fun x => x = a) h0 h) : fx_Y g mX3_init 3 63 (fun r h' => r = none ∧ ∃ pw ps pl pi fw fs fl fz, fi h' a pw ps pl pi nw fw fs fl fz ∧ (∀ k, k < nw → fw k = nI (ml_W (by_ B len) k)) ∧ (∀ r, r < 10 → fs r = nI (ml_st (by_ B len) r) ∧ fl r = nI (ml_rl (by_ B len) r)) ∧ (∀ c, c < 256 → fz c = nI (ml_i (by_ B len) c)) ∧ h0 pw = none ∧ h0 ps = none ∧ h0 pl = none ∧ h0 pi = none ∧ kp (fun x => x = a) h0 h') (fun _ _ => False) 74 [(0, .ref a), (1, .ref dd)] [] h cu su := by
  obtain ⟨f1, f2, f3, f4, f5⟩ := id F
  have hd1 := HD.1
  refine fx_aloadn dX3_init_74 rfl ?_
  refine fx_iconst (nI 2) dX3_init_75 (by decide) ?_
  refine fx_callVp dX3_init_76 vX0_halfAt kkX3_37 rfl rfl (by assumption) (p_dr_half HD 2 (by decide)) rfl (by decide) (by decide) rfl (Nat.le_of_ble_eq_true rfl) ?_
  refine fx_istoren dX3_init_79 (by decide) ?_
  refine fx_aloadn dX3_init_80 rfl ?_
  refine fx_get dX3_init_81 ffX3_15 (by assumption) rfl ?_
  refine fx_iconst (nI 0) dX3_init_84 (by decide) ?_
  refine fx_aloadn dX3_init_85 rfl ?_
  refine fx_iconst (nI 1) dX3_init_86 (by decide) ?_
  refine fx_callVp dX3_init_87 vX0_halfAt kkX3_37 rfl rfl (by assumption) (p_dr_half HD 1 (by decide)) rfl (by decide) (by decide) rfl (Nat.le_of_ble_eq_true rfl) ?_
  refine fx_iastV dX3_init_90 (by assumption) (vp_in_nI (by decide) (by decide)) (fun h1 e1 o1 => ?_)
  rw [nI_clamp (by decide)] at e1
  have F1 := F.setl N e1 o1
  have HD1 := HD.set0 f4 o1
  obtain ⟨g1, g2, g3, g4, g5⟩ := id F1
  have hd2 := HD1.1
  refine fx_aloadn dX3_init_91 rfl ?_
  refine fx_get dX3_init_92 ffX3_15 (by assumption) rfl ?_
  refine fx_iconst (nI 1) dX3_init_95 (by decide) ?_
  refine fx_aloadn dX3_init_96 rfl ?_
  refine fx_iconst (nI 3) dX3_init_97 (by decide) ?_
  refine fx_callVp dX3_init_98 vX0_halfAt kkX3_37 rfl rfl (by assumption) (p_dr_half HD1 3 (by decide)) rfl (by decide) (by decide) rfl (Nat.le_of_ble_eq_true rfl) ?_
  refine fx_iloadn dX3_init_101 rfl ?_
  refine fx_isub dX3_init_102 ?_
  refine fx_iconst (nI 1) dX3_init_103 (by decide) ?_
  refine fx_iadd dX3_init_104 ?_
  rw [nI_chars V.w.2.2]
  refine fx_iastV dX3_init_105 (by assumption) (vp_in_nI (by decide) (by decide)) (fun h2 e2 o2 => ?_)
  rw [nI_clamp (by decide)] at e2
  have F2 := F1.setl N e2 o2
  have HD2 := HD1.set0 g4 o2
  refine fx_iconst (nI 2) dX3_init_106 (by decide) ?_
  refine fx_istoren dX3_init_107 (by decide) ?_
  refine fx_to (l_fi_B V hlen N hn fw fs fz h6 8 h2 2 _ (by decide) rfl F2 HD2 (fun j hj => ?_) (kp.put (kp.put hk o1 (Or.inr hn.2.2.1)) o2 (Or.inr hn.2.2.1))) ⟨rfl, rfl, rfl, rfl, trivial⟩
  rcases (show j = 0 ∨ j = 1 by omega) with rfl | rfl
  · rw [pk_un (by decide), pk_us]
    rfl
  · rw [pk_us]
    rfl
theorem l_fi_A {g : fx_G} {h0 : fx_H} {a dd p n len nw pw ps pl pi cu su : Nat} {B : Nat → Nat} (V : ml_v (by_ B len) nw) (hlen : len = 4 * nw) (N : fap pw ps pl pi) (hn : h0 pw = none ∧ h0 ps = none ∧ h0 pl = none ∧ h0 pi = none) (fs fl fz : Nat → Int32) : ∀ (n' : Nat) (h : fx_H) (k : Nat) (fw : Nat → Int32), k + n' = nw → fi h a pw ps pl pi nw fw fs fl fz → dr h dd p n len B → (∀ j, j < k → fw j = nI (ml_W (by_ B len) j)) → kp (fun x => x = a) h0 h → fx_Y g mX3_init 3 63 (fun r h' => r = none ∧ ∃ pw ps pl pi fw fs fl fz, fi h' a pw ps pl pi nw fw fs fl fz ∧ (∀ k, k < nw → fw k = nI (ml_W (by_ B len) k)) ∧ (∀ r, r < 10 → fs r = nI (ml_st (by_ B len) r) ∧ fl r = nI (ml_rl (by_ B len) r)) ∧ (∀ c, c < 256 → fz c = nI (ml_i (by_ B len) c)) ∧ h0 pw = none ∧ h0 ps = none ∧ h0 pl = none ∧ h0 pi = none ∧ kp (fun x => x = a) h0 h') (fun _ _ => False) 48 [(0, .ref a), (1, .ref dd), (2, .int (nI k))] [] h cu su := by
  have hnw := V.nw
  intro n'
  induction n' using Nat.strongRecOn with
  | ind n' ih =>
  intro h k fw hc F HD hw hk
  obtain ⟨f1, f2, f3, f4, f5⟩ := id F
  refine fx_iloadn dX3_init_48 rfl ?_
  refine fx_aloadn dX3_init_49 rfl ?_
  refine fx_get dX3_init_50 ffX3_30 (by assumption) rfl ?_
  refine fx_alenI dX3_init_53 (by assumption) (by decide) ?_
  refine fx_icn_ge 74 dX3_init_54 (by decide) (by omega) (by omega) (fun c54 => ?_) (fun c54 => ?_)
  · skip
    exact fx_to (l_fi_B0 V hlen N hn fw fs fl fz (fun j hj => hw j (by omega)) h F HD hk) ⟨rfl, rfl, trivial⟩
  · skip
    refine fx_aloadn dX3_init_57 rfl ?_
    refine fx_get dX3_init_58 ffX3_30 (by assumption) rfl ?_
    refine fx_iloadn dX3_init_61 rfl ?_
    refine fx_aloadn dX3_init_62 rfl ?_
    refine fx_iloadn dX3_init_63 rfl ?_
    have hd1 := HD.1
    refine fx_callVp dX3_init_64 vX0_wordAt kkX3_33 rfl rfl (by assumption) (p_dr_word HD k (by omega)) rfl (by decide) (by decide) rfl (Nat.le_of_ble_eq_true rfl) ?_
    refine fx_iastV dX3_init_67 (by assumption) (vp_in_nI c54 (by omega)) (fun h1 e1 o1 => ?_)
    rw [nI_clamp (by omega)] at e1
    refine fx_iinc (nI 1) dX3_init_68 rfl (by decide) (by decide) ?_
    refine fx_goto 48 dX3_init_71 (by decide) ?_
    simp only [nI_add]
    refine fx_to (ih (n' - 1) (by omega) h1 (k + 1) _ (by omega) (F.setw N e1 o1) (HD.set0 f2 o1) (fun j hj => ?_) (kp.put hk o1 (Or.inr hn.1))) ⟨rfl, rfl, rfl, trivial⟩
    by_cases e : j = k
    · subst e
      rw [pk_us]
    · rw [pk_un e]
      exact hw j (by omega)
theorem fresh_of {S : Nat → Prop} {h h' : fx_H} {q : Nat} (k : kp S h h') (hq : h' q = none) (hS : ¬ S q) : h q = none := by
  by_cases e : h q = none
  · exact e
  · rw [k q e hS] at hq
    exact hq
theorem c_fo_init {g : fx_G} {h : fx_H} {a dd p n len nw : Nat} {B : Nat → Nat} {v0 v1 v2 v3 v4 : Value} (ha : h a = some (.inr (2, [v0, v1, v2, v3, v4]))) (HD : dr h dd p n len B) (V : ml_v (by_ B len) nw) (hlen : len = 4 * nw) : fx_Met g mX3_init 3 63 [.ref a, .ref dd] h 4 (nw + 276) (fun r h' => r = none ∧ ∃ pw ps pl pi fw fs fl fz, fi h' a pw ps pl pi nw fw fs fl fz ∧ (∀ k, k < nw → fw k = nI (ml_W (by_ B len) k)) ∧ (∀ r, r < 10 → fs r = nI (ml_st (by_ B len) r) ∧ fl r = nI (ml_rl (by_ B len) r)) ∧ (∀ c, c < 256 → fz c = nI (ml_i (by_ B len) c)) ∧ h pw = none ∧ h ps = none ∧ h pl = none ∧ h pi = none ∧ kp (fun x => x = a) h h') := by
  have hnw := V.nw
  have hda : dd ≠ a := ne_oo HD.1 ha (by decide)
  have hpa : p ≠ a := by
    obtain ⟨y, hy, -⟩ := HD.np
    exact Ne.symm (ne_oa ha hy)
  refine fx_Met.of rfl (Nat.le_of_ble_eq_true rfl) ?_
  refine fx_aloadn dX3_init_0 rfl ?_
  refine fx_objInit dX3_init_1 ooX3 oo_i oo_c (by decide) (by decide) (Nat.le_of_ble_eq_true rfl) ?_
  refine fx_aloadn dX3_init_4 rfl ?_
  refine fx_bipush (nI 10) dX3_init_5 (by decide) ?_
  refine fx_newIV 0 10 (by decide) rfl dX3_init_7 ac_int (by decide) (by decide) (by decide) (by omega) (by omega) (fun ps h1 hps e1 o1 => ?_)
  have ha1 := (o1 a (ne_new ha hps)).trans ha
  refine fx_putFV dX3_init_9 ffX3_11 rfl rfl ha1 rfl rfl (Nat.le_of_ble_eq_true rfl) (fun h2 e2 o2 => ?_)
  have es2 := (o2 ps (Ne.symm (ne_new ha hps))).trans e1
  refine fx_aloadn dX3_init_12 rfl ?_
  refine fx_bipush (nI 10) dX3_init_13 (by decide) ?_
  refine fx_newIV 0 10 (by decide) rfl dX3_init_15 ac_int (by decide) (by decide) (by decide) (by omega) (by omega) (fun pl h3 hpl e3 o3 => ?_)
  have ea3 := (o3 a (ne_new e2 hpl)).trans e2
  have es3 := (o3 ps (ne_new es2 hpl)).trans es2
  have np_l : h pl = none := fresh_of (kp.put (kp.put (kp.rf (S := fun x => x = a)) o1 (Or.inr hps)) o2 (Or.inl rfl)) hpl (fun e => by subst e; rw [e2] at hpl; cases hpl)
  refine fx_putFV dX3_init_17 ffX3_15 rfl rfl ea3 rfl rfl (Nat.le_of_ble_eq_true rfl) (fun h4 e4 o4 => ?_)
  have es4 := (o4 ps (Ne.symm (ne_oa ea3 es3))).trans es3
  have el4 := (o4 pl (Ne.symm (ne_oa ea3 e3))).trans e3
  refine fx_aloadn dX3_init_20 rfl ?_
  refine fx_sipush (nI 256) dX3_init_21 (by decide) ?_
  refine fx_newIV 0 256 (by decide) rfl dX3_init_24 ac_int (by decide) (by decide) (by decide) (by omega) (by omega) (fun pi h5 hpi e5 o5 => ?_)
  have ea5 := (o5 a (ne_new e4 hpi)).trans e4
  have es5 := (o5 ps (ne_new es4 hpi)).trans es4
  have el5 := (o5 pl (ne_new el4 hpi)).trans el4
  have np_i : h pi = none := fresh_of (kp.put (kp.put (kp.put (kp.put (kp.rf (S := fun x => x = a)) o1 (Or.inr hps)) o2 (Or.inl rfl)) o3 (Or.inr np_l)) o4 (Or.inl rfl)) hpi (fun e => by subst e; rw [e4] at hpi; cases hpi)
  refine fx_putFV dX3_init_26 ffX3_18 rfl rfl ea5 rfl rfl (Nat.le_of_ble_eq_true rfl) (fun h6 e6 o6 => ?_)
  have es6 := (o6 ps (Ne.symm (ne_oa ea5 es5))).trans es5
  have el6 := (o6 pl (Ne.symm (ne_oa ea5 el5))).trans el5
  have ei6 := (o6 pi (Ne.symm (ne_oa ea5 e5))).trans e5
  refine fx_aloadn dX3_init_29 rfl ?_
  refine fx_iconst (nI 0) dX3_init_30 (by decide) ?_
  refine fx_putV dX3_init_31 ffX3_21 e6 rfl rfl (Nat.le_of_ble_eq_true rfl) (fun h7 e7 o7 => ?_)
  have es7 := (o7 ps (Ne.symm (ne_oa e6 es6))).trans es6
  have el7 := (o7 pl (Ne.symm (ne_oa e6 el6))).trans el6
  have ei7 := (o7 pi (Ne.symm (ne_oa e6 ei6))).trans ei6
  have k7 : kp (fun x => x = a) h h7 := kp.put (kp.put (kp.put (kp.put (kp.put (kp.put (kp.put kp.rf o1 (Or.inr hps)) o2 (Or.inl rfl)) o3 (Or.inr np_l)) o4 (Or.inl rfl)) o5 (Or.inr np_i)) o6 (Or.inl rfl)) o7 (Or.inl rfl)
  have HD7 : dr h7 dd p n len B := HD.kept (k7 dd (by rw [HD.1]; exact fun e => by cases e) hda) (k7 p (by obtain ⟨y, hy, -⟩ := HD.np; rw [hy]; exact fun e => by cases e) hpa)
  have hd7 := HD7.1
  refine fx_aloadn dX3_init_34 rfl ?_
  refine fx_aloadn dX3_init_35 rfl ?_
  refine fx_callVp dX3_init_36 vX0_size kkX3_25 rfl rfl (by assumption) (p_dr_size HD7) rfl (by decide) (by decide) rfl (Nat.le_of_ble_eq_true rfl) ?_
  refine fx_iconst (nI 4) dX3_init_39 (by decide) ?_
  refine fx_idiv dX3_init_40 (by decide) ?_
  rw [pk_div (by omega) (by decide) (by decide), show len / 4 = nw by omega]
  refine fx_newIV 0 nw (by decide) rfl dX3_init_41 ac_int (nI_pos (by omega)) (nI_clamp (by omega)) (by omega) (by omega) (by omega) (fun pw h8 hpw e8 o8 => ?_)
  have ea8 := (o8 a (ne_new e7 hpw)).trans e7
  have es8 := (o8 ps (ne_new es7 hpw)).trans es7
  have el8 := (o8 pl (ne_new el7 hpw)).trans el7
  have ei8 := (o8 pi (ne_new ei7 hpw)).trans ei7
  have np_w : h pw = none := fresh_of k7 hpw (fun e => by subst e; rw [e7] at hpw; cases hpw)
  refine fx_putFV dX3_init_43 ffX3_30 rfl rfl ea8 rfl rfl (Nat.le_of_ble_eq_true rfl) (fun h9 e9 o9 => ?_)
  have es9 := (o9 ps (Ne.symm (ne_oa ea8 es8))).trans es8
  have el9 := (o9 pl (Ne.symm (ne_oa ea8 el8))).trans el8
  have ei9 := (o9 pi (Ne.symm (ne_oa ea8 ei8))).trans ei8
  have ew9 := (o9 pw (Ne.symm (ne_oa ea8 e8))).trans e8
  refine fx_iconst (nI 0) dX3_init_46 (by decide) ?_
  refine fx_istoren dX3_init_47 (by decide) ?_
  exact fx_to (l_fi_A (h0 := h) V hlen ⟨Ne.symm (ne_new es7 hpw), Ne.symm (ne_new el7 hpw), Ne.symm (ne_new ei7 hpw), ne_new es2 hpl, ne_new es4 hpi, ne_new el4 hpi⟩ ⟨np_w, hps, np_l, np_i⟩ _ _ _ nw h9 0 _ (by omega) ⟨e9, ew9, es9, el9, ei9⟩ (HD7.kept ((o9 dd hda).trans (o8 dd (ne_new hd7 hpw))) ((o9 p hpa).trans (o8 p (by obtain ⟨y, hy, -⟩ := HD7.np; exact ne_new hy hpw)))) (fun j hj => by omega) (kp.put (kp.put k7 o8 (Or.inr np_w)) o9 (Or.inl rfl))) ⟨rfl, rfl, rfl, trivial⟩
