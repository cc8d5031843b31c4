/-! FontDesk: what it throws; its state, by colours: 1 the object, 2 the draft, 3 the row of fonts, 4 the endings, 5 the setting, 6 and on the fonts. -/
theorem th_ise_w : ∀ w ∈ (vx_atS "FontDesk" 52 fx_ise ["java/lang/RuntimeException", "java/lang/Exception"]).filter goodWord, w ∈ lw_tbl := by decide +kernel
theorem th_ise_i : Cond.initialized fx_ise ∈ lw_tbl := by decide +kernel
theorem th_ise {g : fx_G} {M : fx_M} {d lo : Nat} {K : Option Value → fx_H → Prop} {KX : String → fx_H → Prop} {pc : Nat} {lv : List (Nat × Value)} {h : fx_H} {cu su is : Nat} {text : String} (hkd : fx_kd M.1 = 1) (hown : M.1.cls = "FontDesk") (hstr : (is, text) ∈ fx_strs)
    (d0 : decode M.2.1 pc = .ok (.new 48, 3)) (d3 : decode M.2.1 (pc + 3) = .ok (.dup, 1)) (d4 : decode M.2.1 (pc + 4) = .ok (.ldc is, 2)) (d6 : decode M.2.1 (pc + 6) = .ok (.invokespecial 52, 3)) (d9 : decode M.2.1 (pc + 9) = .ok (.athrow, 1))
    (hdd : 5 < d) (hll : 82 ≤ lo) (hcu : 1 ≤ cu) (hsu : 6 ≤ su) (k : KX fx_ise h) : fx_Y g M d lo K KX pc lv [] h cu su :=
  fx_throwS (cls := fx_ise) (names := ["java/lang/RuntimeException", "java/lang/Exception"]) hkd hown (by decide +kernel) (by decide +kernel) ccX5_48 (List.mem_filter.mpr ⟨th_ise_i, rfl⟩) hstr (fun w hw => List.mem_filter.mpr ⟨th_ise_w w hw, (List.mem_filter.mp hw).2⟩) (by decide +kernel) (by decide) (by decide +kernel) d0 d3 d4 d6 d9 hdd hll hcu hsu k
theorem th_iae_w : ∀ w ∈ (vx_atS "FontDesk" 79 fx_iae ["java/lang/RuntimeException", "java/lang/Exception"]).filter goodWord, w ∈ lw_tbl := by decide +kernel
theorem th_iae_i : Cond.initialized fx_iae ∈ lw_tbl := by decide +kernel
theorem th_iae {g : fx_G} {M : fx_M} {d lo : Nat} {K : Option Value → fx_H → Prop} {KX : String → fx_H → Prop} {pc : Nat} {lv : List (Nat × Value)} {h : fx_H} {cu su is : Nat} {text : String} (hkd : fx_kd M.1 = 1) (hown : M.1.cls = "FontDesk") (hstr : (is, text) ∈ fx_strs)
    (d0 : decode M.2.1 pc = .ok (.new 75, 3)) (d3 : decode M.2.1 (pc + 3) = .ok (.dup, 1)) (d4 : decode M.2.1 (pc + 4) = .ok (.ldc is, 2)) (d6 : decode M.2.1 (pc + 6) = .ok (.invokespecial 79, 3)) (d9 : decode M.2.1 (pc + 9) = .ok (.athrow, 1))
    (hdd : 5 < d) (hll : 82 ≤ lo) (hcu : 1 ≤ cu) (hsu : 6 ≤ su) (k : KX fx_iae h) : fx_Y g M d lo K KX pc lv [] h cu su :=
  fx_throwS (cls := fx_iae) (names := ["java/lang/RuntimeException", "java/lang/Exception"]) hkd hown (by decide +kernel) (by decide +kernel) ccX5_75 (List.mem_filter.mpr ⟨th_iae_i, rfl⟩) hstr (fun w hw => List.mem_filter.mpr ⟨th_iae_w w hw, (List.mem_filter.mp hw).2⟩) (by decide +kernel) (by decide) (by decide +kernel) d0 d3 d4 d6 d9 hdd hll hcu hsu k
theorem th_ioo_w : ∀ w ∈ (vx_atS "FontDesk" 96 fx_ioo ["java/lang/RuntimeException", "java/lang/Exception"]).filter goodWord, w ∈ lw_tbl := by decide +kernel
theorem th_ioo_i : Cond.initialized fx_ioo ∈ lw_tbl := by decide +kernel
theorem th_ioo {g : fx_G} {M : fx_M} {d lo : Nat} {K : Option Value → fx_H → Prop} {KX : String → fx_H → Prop} {pc : Nat} {lv : List (Nat × Value)} {h : fx_H} {cu su is : Nat} {text : String} (hkd : fx_kd M.1 = 1) (hown : M.1.cls = "FontDesk") (hstr : (is, text) ∈ fx_strs)
    (d0 : decode M.2.1 pc = .ok (.new 92, 3)) (d3 : decode M.2.1 (pc + 3) = .ok (.dup, 1)) (d4 : decode M.2.1 (pc + 4) = .ok (.ldc is, 2)) (d6 : decode M.2.1 (pc + 6) = .ok (.invokespecial 96, 3)) (d9 : decode M.2.1 (pc + 9) = .ok (.athrow, 1))
    (hdd : 5 < d) (hll : 82 ≤ lo) (hcu : 1 ≤ cu) (hsu : 6 ≤ su) (k : KX fx_ioo h) : fx_Y g M d lo K KX pc lv [] h cu su :=
  fx_throwS (cls := fx_ioo) (names := ["java/lang/RuntimeException", "java/lang/Exception"]) hkd hown (by decide +kernel) (by decide +kernel) ccX5_92 (List.mem_filter.mpr ⟨th_ioo_i, rfl⟩) hstr (fun w hw => List.mem_filter.mpr ⟨th_ioo_w w hw, (List.mem_filter.mp hw).2⟩) (by decide +kernel) (by decide) (by decide +kernel) d0 d3 d4 d6 d9 hdd hll hcu hsu k
/-- a part coloured anew -/
noncomputable def rc (col : Nat → Nat) (c : Nat) (R : Nat → Prop) : Nat → Nat := fun q => @ite _ (R q) (Classical.propDecidable _) c (if col q = c then 0 else col q)
theorem rc_in {col : Nat → Nat} {c : Nat} {R : Nat → Prop} {q : Nat} (h : R q) : rc col c R q = c := if_pos h
theorem rc_out {col : Nat → Nat} {c : Nat} {R : Nat → Prop} {q : Nat} (h : ¬ R q) : rc col c R q = if col q = c then 0 else col q := if_neg h
/-- only the part c has changed -/
def xt (c : Nat) (col : Nat → Nat) (h : fx_H) (col' : Nat → Nat) (h' : fx_H) : Prop := (∀ q, col q ≠ 0 → col q ≠ c → h' q = h q ∧ col' q = col q) ∧ (∀ q, col' q ≠ 0 → h' q ≠ none) ∧ (∀ q, col' q ≠ 0 → col q ≠ 0 ∨ h q = none) ∧ kp (fun q => col q ≠ 0) h h'
theorem xt.of {c : Nat} {col : Nat → Nat} {h h' : fx_H} {S : Nat → Prop} (hlv : ∀ q, col q ≠ 0 → h q ≠ none) (k : kp S h h') (hc : c ≠ 0) (hS : ∀ q, S q → h q ≠ none → col q = c) (R : Nat → Prop) (hR1 : ∀ q, R q → h' q ≠ none) (hR2 : ∀ q, R q → col q = c ∨ h q = none) : xt c col h (rc col c R) h' := by
  have hn : ∀ q, col q ≠ 0 → col q ≠ c → ¬ R q := fun q h0 h1 hq => by
    rcases hR2 q hq with z | z
    · exact h1 z
    · exact hlv q h0 z
  have hk : ∀ q, col q ≠ 0 → col q ≠ c → h' q = h q := fun q h0 h1 => k q (hlv q h0) (fun z => h1 (hS q z (hlv q h0)))
  refine ⟨fun q h0 h1 => ⟨hk q h0 h1, ?_⟩, fun q hq => ?_, fun q hq => ?_, fun q hq hz => ?_⟩
  · rw [rc_out (hn q h0 h1), if_neg h1]
  · by_cases e : R q
    · exact hR1 q e
    · rw [rc_out e] at hq
      by_cases e2 : col q = c
      · rw [if_pos e2] at hq
        exact absurd rfl hq
      · rw [if_neg e2] at hq
        rw [hk q hq e2]
        exact hlv q hq
  · by_cases e : R q
    · rcases hR2 q e with z | z
      · exact Or.inl (by rw [z]; exact hc)
      · exact Or.inr z
    · rw [rc_out e] at hq
      by_cases e2 : col q = c
      · rw [if_pos e2] at hq
        exact absurd rfl hq
      · rw [if_neg e2] at hq
        exact Or.inl hq
  · exact k q hq (fun z => hz (by show col q ≠ 0; rw [hS q z hq]; exact hc))
/-- what a run of changes leaves -/
def xs (col : Nat → Nat) (h : fx_H) (col' : Nat → Nat) (h' : fx_H) : Prop := (∀ q, col' q ≠ 0 → col q ≠ 0 ∨ h q = none) ∧ kp (fun q => col q ≠ 0) h h'
theorem xs.rf {col : Nat → Nat} {h : fx_H} : xs col h col h := ⟨fun _ q => Or.inl q, kp.rf⟩
theorem xt.s {c : Nat} {col col' : Nat → Nat} {h h' : fx_H} (x : xt c col h col' h') : xs col h col' h' := ⟨x.2.2.1, x.2.2.2⟩
theorem xs.tr {col col' col'' : Nat → Nat} {h h' h'' : fx_H} (x : xs col h col' h') (y : xs col' h' col'' h'') : xs col h col'' h'' := by
  have hlv : ∀ q, h' q = none → h q = none ∨ col q ≠ 0 := fun q hq => by
    by_cases e : h q = none
    · exact Or.inl e
    · by_cases e2 : col q ≠ 0
      · exact Or.inr e2
      · rw [x.2 q e e2] at hq
        exact absurd hq e
  refine ⟨fun q hq => ?_, x.2.tr y.2 (fun q hq hn => ?_)⟩
  · rcases y.1 q hq with z | z
    · exact x.1 q z
    · rcases hlv q z with z2 | z2
      · exact Or.inr z2
      · exact Or.inl z2
  · rcases x.1 q hq with z | z
    · exact z
    · exact absurd z hn
def cdD (col : Nat → Nat) (h : fx_H) (dq : Nat) (B : Nat → Nat) (len : Nat) : Prop := ∃ pb cap, dr h dq pb cap len B ∧ col dq = 2 ∧ col pb = 2
def cdF (col : Nat → Nat) (h : fx_H) (fq : Nat) (F : Nat → (Nat → Nat) × Nat × Int32) (N : Nat) : Prop := ∃ fs : Nat → Option Nat, h fq = some (.inl (4, 32, .inr (.inr (.inr (.inr fs))))) ∧ col fq = 3 ∧ ∀ k, k < N → ∃ ad, fs k = some ad ∧ fo (fun q => col q = 6 + k) h ad (F k).1 (F k).2.1 (F k).2.2
def cdE (col : Nat → Nat) (h : fx_H) (eq L : Nat) : Prop := ∃ (pr pg pt pa pl : Nat) (fr fg ft fa fl : Nat → Int32) (rows : Nat), en h eq pr pg pt pa pl fr fg ft fa fl rows L ∧ eap pr pg pt pa pl ∧ ∀ q, eS eq pr pg pt pa pl q → col q = 4
def cdS (col : Nat → Nat) (h : fx_H) (sq : Nat) (I : List sg) (T : Int64) : Prop := ∃ (pik pic pak pac : Nat) (x : sg) (A : List sg) (pr : Nat), sw h sq pik pic pak pac I T x A pr ∧ ∀ q, sS sq pik pic pak pac q → col q = 5
def cd (col : Nat → Nat) (h : fx_H) (x dq fq eq sq : Nat) (F : Nat → (Nat → Nat) × Nat × Int32) (N : Nat) (B : Nat → Nat) (len E : Nat) (I : List sg) (T : Int64) (L : Nat) : Prop := h x = some (.inr (4, [.ref dq, .ref fq, .ref eq, .ref sq, .int (nI N), .int (nI E)])) ∧ col x = 1 ∧ cdD col h dq B len ∧ cdF col h fq F N ∧ cdE col h eq L ∧ cdS col h sq I T ∧ (∀ q, col q ≠ 0 → h q ≠ none) ∧ L ≤ 65792 ∧ N ≤ 32 ∧ I.length ≤ 1000 ∧ foks F N
theorem cdD.xt {c : Nat} {col col' : Nat → Nat} {h h' : fx_H} {dq len : Nat} {B : Nat → Nat} (D : cdD col h dq B len) (x : xt c col h col' h') (hc : c ≠ 2) : cdD col' h' dq B len := by
  obtain ⟨pb, cap, ⟨h1, h2, h3, f, h4, h5⟩, c1, c2⟩ := D
  have e1 := x.1 dq (by omega) (by omega)
  have e2 := x.1 pb (by omega) (by omega)
  exact ⟨pb, cap, ⟨e1.1.trans h1, h2, h3, f, e2.1.trans h4, h5⟩, e1.2.trans c1, e2.2.trans c2⟩
theorem cdF.xt {c : Nat} {col col' : Nat → Nat} {h h' : fx_H} {fq N : Nat} {F : Nat → (Nat → Nat) × Nat × Int32} (D : cdF col h fq F N) (x : xt c col h col' h') (hc : c ≠ 3) (hc2 : ∀ k, k < N → c ≠ 6 + k) : cdF col' h' fq F N := by
  obtain ⟨fs, h1, c1, h2⟩ := D
  have e1 := x.1 fq (by omega) (by omega)
  refine ⟨fs, e1.1.trans h1, e1.2.trans c1, fun k hk => ?_⟩
  obtain ⟨ad, h3, h4⟩ := h2 k hk
  have h5 := hc2 k hk
  refine ⟨ad, h3, (h4.kept (fun q hq => (x.1 q (by have := hq; omega) (by have := hq; omega)).1)).sub (fun q hq => ?_)⟩
  have hq' : col q = 6 + k := hq
  exact (x.1 q (by omega) (by omega)).2.trans hq'
theorem cdE.xt {c : Nat} {col col' : Nat → Nat} {h h' : fx_H} {eq L : Nat} (D : cdE col h eq L) (x : xt c col h col' h') (hc : c ≠ 4) : cdE col' h' eq L := by
  obtain ⟨pr, pg, pt, pa, pl, fr, fg, ft, fa, fl, rows, h1, h2, h3⟩ := D
  have e : ∀ q, eS eq pr pg pt pa pl q → h' q = h q ∧ col' q = col q := fun q hq => x.1 q (by have := h3 q hq; omega) (by have := h3 q hq; omega)
  exact ⟨pr, pg, pt, pa, pl, fr, fg, ft, fa, fl, rows, h1.kept (fun q hq => (e q hq).1), h2, fun q hq => (e q hq).2.trans (h3 q hq)⟩
theorem cdS.xt {c : Nat} {col col' : Nat → Nat} {h h' : fx_H} {sq : Nat} {I : List sg} {T : Int64} (D : cdS col h sq I T) (x : xt c col h col' h') (hc : c ≠ 5) : cdS col' h' sq I T := by
  obtain ⟨pik, pic, pak, pac, x9, A, pr, h1, h2⟩ := D
  have e : ∀ q, sS sq pik pic pak pac q → h' q = h q ∧ col' q = col q := fun q hq => x.1 q (by have := h2 q hq; omega) (by have := h2 q hq; omega)
  exact ⟨pik, pic, pak, pac, x9, A, pr, h1.kept (fun q hq => (e q hq).1), fun q hq => (e q hq).2.trans (h2 q hq)⟩
theorem xt.x {c : Nat} {col col' : Nat → Nat} {h h' : fx_H} {x : Nat} {v : fx_E} (y : xt c col h col' h') (hx : h x = some v) (hc : col x = 1) (h1 : c ≠ 1) : h' x = some v ∧ col' x = 1 := by
  have e := y.1 x (by omega) (by omega)
  exact ⟨e.1.trans hx, e.2.trans hc⟩

theorem p_cd_fault {g : fx_G} {col : Nat → Nat} {h : fx_H} {x dq fq eq sq N len E L : Nat} {F : Nat → (Nat → Nat) × Nat × Int32} {B : Nat → Nat} {I : List sg} {T : Int64} (C : cd col h x dq fq eq sq F N B len E I T L) : fx_P g mX5_fault 0 0 [.ref x] h (.int (nI E)) := by
  obtain ⟨c0, cx, CD, CF, CE, CS, clv, hL, hN, hI9, hfk⟩ := id C
  refine fx_Met.of rfl (Nat.le_of_ble_eq_true rfl) ?_
  refine fx_aloadn dX5_fault_0 rfl ?_
  refine fx_get dX5_fault_1 ffX5_40 (by assumption) rfl ?_
  refine fx_iret dX5_fault_4 rfl ?_
  exact ⟨rfl, rfl⟩
theorem p_cd_item {g : fx_G} {col : Nat → Nat} {h : fx_H} {x dq fq eq sq N len E L : Nat} {F : Nat → (Nat → Nat) × Nat × Int32} {B : Nat → Nat} {I : List sg} {T : Int64} (C : cd col h x dq fq eq sq F N B len E I T L) (k q : Int32) : fx_P g mX5_item 1 22 [.ref x, .int k, .int q] h (.int (mz_p I k q)) := by
  obtain ⟨c0, cx, CD, CF, CE, CS, clv, hL, hN, hI9, hfk⟩ := id C
  obtain ⟨pik, pic, pak, pac, x9, A, pr, S1, cS⟩ := CS
  obtain ⟨gs, s0⟩ := S1.at
  refine fx_Met.of rfl (Nat.le_of_ble_eq_true rfl) ?_
  refine fx_aloadn dX5_item_0 rfl ?_
  refine fx_get dX5_item_1 ffX5_32 c0 rfl ?_
  refine fx_iloadn dX5_item_4 rfl ?_
  refine fx_iloadn dX5_item_5 rfl ?_
  refine fx_callVp dX5_item_6 vX4_itemPart kkX5_127 rfl rfl (by assumption) (p_se_itemPart S1 hI9 k q) rfl (by decide) (by decide) rfl (Nat.le_of_ble_eq_true rfl) ?_
  refine fx_iret dX5_item_9 rfl ?_
  exact ⟨rfl, rfl⟩
theorem p_cd_width {g : fx_G} {col : Nat → Nat} {h : fx_H} {x dq fq eq sq N len E L : Nat} {F : Nat → (Nat → Nat) × Nat × Int32} {B : Nat → Nat} {I : List sg} {T : Int64} (C : cd col h x dq fq eq sq F N B len E I T L) : fx_P g mX5_width 1 20 [.ref x] h (.long T) := by
  obtain ⟨c0, cx, CD, CF, CE, CS, clv, hL, hN, hI9, hfk⟩ := id C
  obtain ⟨pik, pic, pak, pac, x9, A, pr, S1, cS⟩ := CS
  obtain ⟨gs, s0⟩ := S1.at
  refine fx_Met.of rfl (Nat.le_of_ble_eq_true rfl) ?_
  refine fx_aloadn dX5_width_0 rfl ?_
  refine fx_get dX5_width_1 ffX5_32 c0 rfl ?_
  refine fx_callVp dX5_width_4 vX4_totalWidth kkX5_130 rfl rfl (by assumption) (p_se_totalWidth S1) rfl (by decide) (by decide) rfl (Nat.le_of_ble_eq_true rfl) ?_
  refine fx_lret dX5_width_7 rfl ?_
  exact ⟨rfl, rfl⟩
theorem p_cd_fontN {g : fx_G} {col : Nat → Nat} {h : fx_H} {x dq fq eq sq N len E L : Nat} {F : Nat → (Nat → Nat) × Nat × Int32} {B : Nat → Nat} {I : List sg} {T : Int64} (C : cd col h x dq fq eq sq F N B len E I T L) (k : Int32) (hk : noF N k) : fx_P g mX5_fontAt 0 0 [.ref x, .int k] h .null := by
  obtain ⟨c0, cx, CD, CF, CE, CS, clv, hL, hN, hI9, hfk⟩ := id C
  refine fx_Met.of rfl (Nat.le_of_ble_eq_true rfl) ?_
  rcases hk with hk | hk
  · skip
    refine fx_iloadn dX5_fontAt_0 rfl ?_
    refine fx_if_lt 27 dX5_fontAt_1 (by decide) (fun c1 => ?_) (fun c1 => absurd (hk) c1)
    refine fx_null dX5_fontAt_27 ?_
    refine fx_aret dX5_fontAt_28 rfl (Or.inl ⟨_, rfl⟩) (Or.inl rfl) ?_
    exact ⟨rfl, rfl⟩
  · have hk0 : ¬ k < 0 := fun q => absurd (show nI 0 ≤ k from Int32.le_trans (nI_le (Nat.zero_le _) (by omega)) hk) (by show ¬ 0 ≤ k; exact Int32.not_le.mpr q)
    refine fx_iloadn dX5_fontAt_0 rfl ?_
    refine fx_if_lt 27 dX5_fontAt_1 (by decide) (fun c1 => absurd c1 (hk0)) (fun c1 => ?_)
    refine fx_iloadn dX5_fontAt_4 rfl ?_
    refine fx_aloadn dX5_fontAt_5 rfl ?_
    refine fx_get dX5_fontAt_6 ffX5_36 c0 rfl ?_
    refine fx_icmp_ge 27 dX5_fontAt_9 (by decide) (fun c9 => ?_) (fun c9 => absurd (hk) c9)
    refine fx_null dX5_fontAt_27 ?_
    refine fx_aret dX5_fontAt_28 rfl (Or.inl ⟨_, rfl⟩) (Or.inl rfl) ?_
    exact ⟨rfl, rfl⟩
theorem p_cd_fontY {g : fx_G} {col : Nat → Nat} {h : fx_H} {x dq fq eq sq N len E L : Nat} {F : Nat → (Nat → Nat) × Nat × Int32} {B : Nat → Nat} {I : List sg} {T : Int64} (C : cd col h x dq fq eq sq F N B len E I T L) (k : Nat) (hk : k < N) : ∃ ad, fo (fun q => col q = 6 + k) h ad (F k).1 (F k).2.1 (F k).2.2 ∧ fx_P g mX5_fontAt 0 0 [.ref x, .int (nI k)] h (.ref ad) := by
  obtain ⟨c0, cx, CD, CF, CE, CS, clv, hL, hN, hI9, hfk⟩ := id C
  obtain ⟨fs, f0, cf, hf⟩ := CF
  obtain ⟨ad, hfs, H⟩ := hf k hk
  refine ⟨ad, H, ?_⟩
  refine fx_Met.of rfl (Nat.le_of_ble_eq_true rfl) ?_
  refine fx_iloadn dX5_fontAt_0 rfl ?_
  refine fx_if_lt 27 dX5_fontAt_1 (by decide) (fun c1 => absurd c1 (nI_pos (by omega))) (fun c1 => ?_)
  refine fx_iloadn dX5_fontAt_4 rfl ?_
  refine fx_aloadn dX5_fontAt_5 rfl ?_
  refine fx_get dX5_fontAt_6 ffX5_36 c0 rfl ?_
  refine fx_icmp_ge 27 dX5_fontAt_9 (by decide) (fun c9 => absurd c9 (nI_ge hk (by omega))) (fun c9 => ?_)
  refine fx_iloadn dX5_fontAt_12 rfl ?_
  refine fx_bipush (nI 32) dX5_fontAt_13 (by decide) ?_
  refine fx_icmp_ge 27 dX5_fontAt_15 (by decide) (fun c15 => absurd c15 (nI_ge (show k < 32 by omega) (by decide))) (fun c15 => ?_)
  refine fx_aloadn dX5_fontAt_18 rfl ?_
  refine fx_get dX5_fontAt_19 ffX5_18 c0 rfl ?_
  refine fx_iloadn dX5_fontAt_22 rfl ?_
  refine fx_aald dX5_fontAt_23 f0 (vp_in_nI (show k < 32 by omega) (by decide)) ?_
  rw [nI_clamp (by omega), hfs]
  refine fx_goto 28 dX5_fontAt_24 (by decide) ?_
  refine fx_aret dX5_fontAt_28 rfl (Or.inl ⟨_, rfl⟩) (Or.inr ⟨ad, rfl⟩) ?_
  exact ⟨rfl, rfl⟩
theorem p_cd_count {g : fx_G} {col : Nat → Nat} {h : fx_H} {x dq fq eq sq N len E L : Nat} {F : Nat → (Nat → Nat) × Nat × Int32} {B : Nat → Nat} {I : List sg} {T : Int64} (C : cd col h x dq fq eq sq F N B len E I T L) (y : Int32) : fx_P g mX5_count 4 85 [.ref x, .int y] h (.int (ml_ct F N len y)) := by
  obtain ⟨c0, cx, CD, CF, CE, CS, clv, hL, hN, hI9, hfk⟩ := id C
  obtain ⟨pb, cap, D1, cD1, cD2⟩ := CD
  obtain ⟨d0, -⟩ := id D1
  refine fx_Met.of rfl (Nat.le_of_ble_eq_true rfl) ?_
  rcases pk_ix y (show 6 < 2 ^ 31 by decide) with hx | hx | ⟨q, hq, rfl⟩
  · have hx0 : ¬ y = nI 0 := fun z => by rw [z] at hx; exact absurd hx (by decide)
    have hx1 : ¬ y = nI 1 := fun z => by rw [z] at hx; exact absurd hx (by decide)
    refine fx_iloadn dX5_count_0 rfl ?_
    refine fx_if_ne 9 dX5_count_1 (by decide) (fun c1 => ?_) (fun c1 => absurd c1 (hx0))
    refine fx_iloadn dX5_count_9 rfl ?_
    refine fx_iconst (nI 1) dX5_count_10 (by decide) ?_
    refine fx_icmp_ne 22 dX5_count_11 (by decide) (fun c11 => ?_) (fun c11 => absurd c11 (hx1))
    refine fx_iloadn dX5_count_22 rfl ?_
    refine fx_iconst (nI 2) dX5_count_23 (by decide) ?_
    refine fx_icmp_lt 32 dX5_count_24 (by decide) (fun c24 => ?_) (fun c24 => absurd (Int32.lt_trans hx (by decide)) c24)
    refine fx_iconst (-1) dX5_count_32 (by decide) ?_
    refine fx_iret dX5_count_33 rfl ?_
    exact ⟨by unfold ml_ct; rw [if_neg hx0, if_neg hx1, if_pos (Or.inl hx)], rfl⟩
  · have hx0 : ¬ y = nI 0 := fun z => by rw [z] at hx; exact absurd hx (by decide)
    have hx1 : ¬ y = nI 1 := fun z => by rw [z] at hx; exact absurd hx (by decide)
    have hxn : ¬ y < nI 2 := fun z => absurd (Int32.le_trans hx (Int32.le_of_lt z)) (by decide)
    have hx5 : ¬ y ≤ nI 5 := fun z => absurd (Int32.le_trans hx z) (by decide)
    refine fx_iloadn dX5_count_0 rfl ?_
    refine fx_if_ne 9 dX5_count_1 (by decide) (fun c1 => ?_) (fun c1 => absurd c1 (hx0))
    refine fx_iloadn dX5_count_9 rfl ?_
    refine fx_iconst (nI 1) dX5_count_10 (by decide) ?_
    refine fx_icmp_ne 22 dX5_count_11 (by decide) (fun c11 => ?_) (fun c11 => absurd c11 (hx1))
    refine fx_iloadn dX5_count_22 rfl ?_
    refine fx_iconst (nI 2) dX5_count_23 (by decide) ?_
    refine fx_icmp_lt 32 dX5_count_24 (by decide) (fun c24 => absurd c24 (hxn)) (fun c24 => ?_)
    refine fx_iloadn dX5_count_27 rfl ?_
    refine fx_iconst (nI 5) dX5_count_28 (by decide) ?_
    refine fx_icmp_le 34 dX5_count_29 (by decide) (fun c29 => absurd c29 (hx5)) (fun c29 => ?_)
    refine fx_iconst (-1) dX5_count_32 (by decide) ?_
    refine fx_iret dX5_count_33 rfl ?_
    exact ⟨by unfold ml_ct; rw [if_neg hx0, if_neg hx1, if_pos (Or.inr hx)], rfl⟩
  by_cases hq0 : q = 0
  · subst hq0
    refine fx_iloadn dX5_count_0 rfl ?_
    refine fx_if_ne 9 dX5_count_1 (by decide) (fun c1 => absurd (rfl) c1) (fun c1 => ?_)
    refine fx_aloadn dX5_count_4 rfl ?_
    refine fx_get dX5_count_5 ffX5_36 c0 rfl ?_
    refine fx_iret dX5_count_8 rfl ?_
    exact ⟨by unfold ml_ct; rw [if_pos rfl], rfl⟩
  by_cases hq1 : q = 1
  · subst hq1
    refine fx_iloadn dX5_count_0 rfl ?_
    refine fx_if_ne 9 dX5_count_1 (by decide) (fun c1 => ?_) (fun c1 => absurd c1 (by decide))
    refine fx_iloadn dX5_count_9 rfl ?_
    refine fx_iconst (nI 1) dX5_count_10 (by decide) ?_
    refine fx_icmp_ne 22 dX5_count_11 (by decide) (fun c11 => absurd (rfl) c11) (fun c11 => ?_)
    refine fx_aloadn dX5_count_14 rfl ?_
    refine fx_get dX5_count_15 ffX5_10 c0 rfl ?_
    refine fx_callVp dX5_count_18 vX0_size kkX5_134 rfl rfl (by assumption) (p_dr_size D1) rfl (by decide) (by decide) rfl (Nat.le_of_ble_eq_true rfl) ?_
    refine fx_iret dX5_count_21 rfl ?_
    exact ⟨by unfold ml_ct; rw [if_neg (by decide), if_pos rfl], rfl⟩
  · have hq2 : 2 ≤ q := by omega
    by_cases hN0 : N = 0
    · skip
      refine fx_iloadn dX5_count_0 rfl ?_
      refine fx_if_ne 9 dX5_count_1 (by decide) (fun c1 => ?_) (fun c1 => absurd c1 (fun z => absurd ((nI_eq (by omega) (by decide)).mp (show nI q = nI 0 from z)) (by omega)))
      refine fx_iloadn dX5_count_9 rfl ?_
      refine fx_iconst (nI 1) dX5_count_10 (by decide) ?_
      refine fx_icmp_ne 22 dX5_count_11 (by decide) (fun c11 => ?_) (fun c11 => absurd c11 (fun z => absurd ((nI_eq (by omega) (by decide)).mp z) (by omega)))
      refine fx_iloadn dX5_count_22 rfl ?_
      refine fx_iconst (nI 2) dX5_count_23 (by decide) ?_
      refine fx_icmp_lt 32 dX5_count_24 (by decide) (fun c24 => absurd c24 (nI_nlt hq2 (by omega))) (fun c24 => ?_)
      refine fx_iloadn dX5_count_27 rfl ?_
      refine fx_iconst (nI 5) dX5_count_28 (by decide) ?_
      refine fx_icmp_le 34 dX5_count_29 (by decide) (fun c29 => ?_) (fun c29 => absurd (nI_le (show q ≤ 5 by omega) (by decide)) c29)
      refine fx_aloadn dX5_count_34 rfl ?_
      refine fx_aloadn dX5_count_35 rfl ?_
      refine fx_get dX5_count_36 ffX5_36 c0 rfl ?_
      refine fx_iconst (nI 1) dX5_count_39 (by decide) ?_
      refine fx_isub dX5_count_40 ?_
      refine fx_callVp dX5_count_41 vX5_fontAt kkX5_84 rfl rfl c0 (p_cd_fontN C _ (Or.inl (by rw [hN0]; decide))) rfl (by decide) (by decide) rfl (Nat.le_of_ble_eq_true rfl) ?_
      refine fx_astorenN dX5_count_44 (by decide) ?_
      refine fx_aloadnN dX5_count_45 rfl ?_
      refine fx_ifnonnullN dX5_count_46 ?_
      refine fx_iconst (nI 0) dX5_count_49 (by decide) ?_
      refine fx_goto 58 dX5_count_50 (by decide) ?_
      refine fx_iret dX5_count_58 rfl ?_
      exact ⟨by unfold ml_ct; rw [if_neg (fun z => absurd ((nI_eq (by omega) (by decide)).mp z) (by omega)), if_neg (fun z => absurd ((nI_eq (by omega) (by decide)).mp z) (by omega)), if_neg (fun z => by rcases z with z | z; exact nI_pos (by omega) z; exact absurd ((nI_leI (by decide) (by omega)).mp z) (by omega)), if_pos hN0], rfl⟩
    · obtain ⟨ad, H, hP⟩ := p_cd_fontY (g := g) C (N - 1) (by omega)
      have V := (hfk (N - 1) (by omega)).1
      obtain ⟨gf, f0⟩ := H.at
      refine fx_iloadn dX5_count_0 rfl ?_
      refine fx_if_ne 9 dX5_count_1 (by decide) (fun c1 => ?_) (fun c1 => absurd c1 (fun z => absurd ((nI_eq (by omega) (by decide)).mp (show nI q = nI 0 from z)) (by omega)))
      refine fx_iloadn dX5_count_9 rfl ?_
      refine fx_iconst (nI 1) dX5_count_10 (by decide) ?_
      refine fx_icmp_ne 22 dX5_count_11 (by decide) (fun c11 => ?_) (fun c11 => absurd c11 (fun z => absurd ((nI_eq (by omega) (by decide)).mp z) (by omega)))
      refine fx_iloadn dX5_count_22 rfl ?_
      refine fx_iconst (nI 2) dX5_count_23 (by decide) ?_
      refine fx_icmp_lt 32 dX5_count_24 (by decide) (fun c24 => absurd c24 (nI_nlt hq2 (by omega))) (fun c24 => ?_)
      refine fx_iloadn dX5_count_27 rfl ?_
      refine fx_iconst (nI 5) dX5_count_28 (by decide) ?_
      refine fx_icmp_le 34 dX5_count_29 (by decide) (fun c29 => ?_) (fun c29 => absurd (nI_le (show q ≤ 5 by omega) (by decide)) c29)
      refine fx_aloadn dX5_count_34 rfl ?_
      refine fx_aloadn dX5_count_35 rfl ?_
      refine fx_get dX5_count_36 ffX5_36 c0 rfl ?_
      refine fx_iconst (nI 1) dX5_count_39 (by decide) ?_
      refine fx_isub dX5_count_40 ?_
      rw [pk_sub (by omega)]
      refine fx_callVp dX5_count_41 vX5_fontAt kkX5_84 rfl rfl c0 hP rfl (by decide) (by decide) rfl (Nat.le_of_ble_eq_true rfl) ?_
      refine fx_astoren dX5_count_44 (by decide) ?_
      refine fx_aloadn dX5_count_45 rfl ?_
      refine fx_ifnonnullR 53 dX5_count_46 (by decide) ?_
      refine fx_aloadn dX5_count_53 rfl ?_
      refine fx_iloadn dX5_count_54 rfl ?_
      refine fx_callVp dX5_count_55 vX3_tally kkX5_137 rfl rfl (by assumption) (p_fo_tally H V q hq2 (by omega)) rfl (by decide) (by decide) rfl (Nat.le_of_ble_eq_true rfl) ?_
      refine fx_iret dX5_count_58 rfl ?_
      exact ⟨by unfold ml_ct; rw [if_neg (fun z => absurd ((nI_eq (by omega) (by decide)).mp z) (by omega)), if_neg (fun z => absurd ((nI_eq (by omega) (by decide)).mp z) (by omega)), if_neg (fun z => by rcases z with z | z; exact nI_pos (by omega) z; exact absurd ((nI_leI (by decide) (by omega)).mp z) (by omega)), if_neg hN0, nI_clamp (by omega)], rfl⟩
