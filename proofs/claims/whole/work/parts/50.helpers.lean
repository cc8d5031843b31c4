/-! The law's helpers: they catch what FontDesk throws -/
def mL_load : fx_M := (yL_load, cL_load, 4, some .int)
def mL_metric : fx_M := (yL_metric, cL_metric, 6, some .int)
def mL_parameter : fx_M := (yL_parameter, cL_parameter, 5, some .int)
def mL_set : fx_M := (yL_set, cL_set, 4, some .int)
set_option maxRecDepth 100000 in
theorem vL_load : fx_Vw mL_load 3 := ⟨fx_in 272 rfl rfl, fx_in 57 rfl rfl, ⟨by decide +kernel, by decide +kernel, by decide +kernel⟩, fx_in 271 rfl rfl⟩
set_option maxRecDepth 100000 in
theorem vL_metric : fx_Vw mL_metric 5 := ⟨fx_in 584 rfl rfl, fx_in 57 rfl rfl, ⟨by decide +kernel, by decide +kernel, by decide +kernel⟩, fx_in 583 rfl rfl⟩
set_option maxRecDepth 100000 in
theorem vL_parameter : fx_Vw mL_parameter 4 := ⟨fx_in 618 rfl rfl, fx_in 57 rfl rfl, ⟨by decide +kernel, by decide +kernel, by decide +kernel⟩, fx_in 617 rfl rfl⟩
set_option maxRecDepth 100000 in
theorem vL_set : fx_Vw mL_set 3 := ⟨fx_in 630 rfl rfl, fx_in 57 rfl rfl, ⟨by decide +kernel, by decide +kernel, by decide +kernel⟩, fx_in 629 rfl rfl⟩
theorem hdLoad_iae : fx_Hd mL_load fx_iae 4 12 := ⟨[], ⟨0, 9, 12, 13⟩, [⟨0, 9, 15, 15⟩], rfl, (fun z hz => nomatch hz), by decide, by decide, ccL_13, Or.inl rfl, rfl⟩
theorem hdLoad_ise : fx_Hd mL_load fx_ise 4 15 := ⟨[⟨0, 9, 12, 13⟩], ⟨0, 9, 15, 15⟩, [], rfl, (fun z hz => by rw [List.mem_singleton.mp hz]; exact ⟨by decide, by decide, _, ccL_13, Or.inl ⟨rfl, rfl⟩⟩), by decide, by decide, ccL_15, Or.inr (Or.inl rfl), rfl⟩
theorem hdMetric_ioo : fx_Hd mL_metric fx_ioo 7 15 := ⟨[], ⟨0, 12, 15, 21⟩, [], rfl, (fun z hz => nomatch hz), by decide, by decide, ccL_21, Or.inr (Or.inr rfl), rfl⟩
theorem hdParameter_ioo : fx_Hd mL_parameter fx_ioo 5 13 := ⟨[], ⟨0, 10, 13, 21⟩, [], rfl, (fun z hz => nomatch hz), by decide, by decide, ccL_21, Or.inr (Or.inr rfl), rfl⟩
theorem hdSet_ioo : fx_Hd mL_set fx_ioo 4 12 := ⟨[], ⟨0, 9, 12, 21⟩, [⟨0, 9, 15, 13⟩, ⟨0, 9, 18, 15⟩], rfl, (fun z hz => nomatch hz), by decide, by decide, ccL_21, Or.inr (Or.inr rfl), rfl⟩
theorem hdSet_iae : fx_Hd mL_set fx_iae 4 15 := ⟨[⟨0, 9, 12, 21⟩], ⟨0, 9, 15, 13⟩, [⟨0, 9, 18, 15⟩], rfl, (fun z hz => by rw [List.mem_singleton.mp hz]; exact ⟨by decide, by decide, _, ccL_21, Or.inr (Or.inl ⟨rfl, rfl⟩)⟩), by decide, by decide, ccL_13, Or.inl rfl, rfl⟩
theorem hdSet_ise : fx_Hd mL_set fx_ise 4 18 := ⟨[⟨0, 9, 12, 21⟩, ⟨0, 9, 15, 13⟩], ⟨0, 9, 18, 15⟩, [], rfl, (fun z hz => by
    rcases List.mem_cons.mp hz with rfl | hz
    · exact ⟨by decide, by decide, _, ccL_21, Or.inr (Or.inr ⟨rfl, rfl⟩)⟩
    · rw [List.mem_singleton.mp hz]
      exact ⟨by decide, by decide, _, ccL_13, Or.inl ⟨rfl, rfl⟩⟩), by decide, by decide, ccL_15, Or.inr (Or.inl rfl), rfl⟩
theorem cd.same {col : Nat → Nat} {h : fx_H} {x dq fq eq sq N len E L : Nat} {F : Nat → (Nat → Nat) × Nat × Int32} {B : Nat → Nat} {I : List sg} {T : Int64} {h' : fx_H} (C : cd col h x dq fq eq sq F N B len E I T L) (hq : ∀ q, col q ≠ 0 → h' q = h q) : cd col h' x dq fq eq sq F N B len E I T L := by
  obtain ⟨c0, cx, CD, CF, CE, CS, clv, hL, hN, hI9, hfk⟩ := id C
  obtain ⟨pb, cap, D1, cA, cB⟩ := CD
  obtain ⟨fs, f0, cf, hf⟩ := CF
  obtain ⟨pr, pg, pt, pa, pl, fr, fg, ft, fa, fl, rows, En, Ea, cE⟩ := CE
  obtain ⟨pik, pic, pak, pac, x9, A, pr9, S1, cS⟩ := CS
  obtain ⟨d1, d2, d3, fd, d4, d5⟩ := D1
  refine ⟨(hq x (by omega)).trans c0, cx, ⟨pb, cap, ⟨(hq dq (by omega)).trans d1, d2, d3, fd, (hq pb (by omega)).trans d4, d5⟩, cA, cB⟩, ⟨fs, (hq fq (by omega)).trans f0, cf, fun k hk => ?_⟩, ⟨pr, pg, pt, pa, pl, fr, fg, ft, fa, fl, rows, En.kept (fun q z => hq q (by have := cE q z; omega)), Ea, cE⟩, ⟨pik, pic, pak, pac, x9, A, pr9, S1.kept (fun q z => hq q (by have := cS q z; omega)), cS⟩, fun q z => by rw [hq q z]; exact clv q z, hL, hN, hI9, hfk⟩
  obtain ⟨ad, h1, h2⟩ := hf k hk
  exact ⟨ad, h1, h2.kept (fun q z => hq q (by rw [show col q = 6 + k from z]; omega))⟩
/-- .. and the out row -/
def xo (po : Nat) (col : Nat → Nat) (h : fx_H) (col' : Nat → Nat) (h' : fx_H) : Prop := (∀ q, col' q ≠ 0 → col q ≠ 0 ∨ h q = none) ∧ kp (fun q => col q ≠ 0 ∨ q = po) h h'
theorem xs.o {po : Nat} {col col' : Nat → Nat} {h h' : fx_H} (x : xs col h col' h') : xo po col h col' h' := ⟨x.1, x.2.sub (fun _ _ z => Or.inl z)⟩
theorem xs.out {po : Nat} {col col' : Nat → Nat} {h h' h'' : fx_H} {v : fx_E} (x : xs col h col' h') (hp : h po = some v) (hc : col po = 0) (o : ∀ q, q ≠ po → h'' q = h' q) : xo po col h col' h'' ∧ ∀ q, col' q ≠ 0 → h'' q = h' q := by
  refine ⟨⟨x.1, fun q hq hn => ?_⟩, fun q hq => o q (fun e => ?_)⟩
  · rw [o q (fun e => hn (Or.inr e))]
    exact x.2 q hq (fun z => hn (Or.inl z))
  · rcases x.1 q hq with z | z
    · rw [e, hc] at z; exact z rfl
    · rw [e, hp] at z; cases z
theorem xs.po {po : Nat} {col col' : Nat → Nat} {h h' : fx_H} {v : fx_E} (x : xs col h col' h') (hp : h po = some v) (hc : col po = 0) : h' po = some v := (x.2 po (by rw [hp]; exact fun z => by cases z) (fun z => z hc)).trans hp

theorem h_loadN {g : fx_G} {col : Nat → Nat} {h : fx_H} {x dq fq eq sq N len E L : Nat} {F : Nat → (Nat → Nat) × Nat × Int32} {B : Nat → Nat} {I : List sg} {T : Int64} (C : cd col h x dq fq eq sq F N B len E I T L) {po : Nat} {f0 : Nat → Int64} (hp : h po = some (.inl (3, 1, .inr (.inl f0)))) (hc : col po = 0) (y : Int32) (hy : noL N y) : fx_MetW g mL_load 7 167 [.ref x, .int y, .ref po] h 1 6 (fun r h' => r = some (.int (nI 2)) ∧ h' po = h po ∧ ∃ col', cd col' h' x dq fq eq sq F N B len E I T L ∧ xo po col h col' h') := by
  have c0 := C.1
  refine fx_MetW.of rfl (Nat.le_of_ble_eq_true rfl) ?_
  refine fx_aloadn dL_load_0 rfl ?_
  refine fx_iconst (nI 0) dL_load_1 (by decide) ?_
  refine fx_aloadn dL_load_2 rfl ?_
  refine fx_iloadn dL_load_3 rfl ?_
  refine fx_callVX rfl dL_load_4 vX5_load kkL_7 rfl rfl c0 (c_cd_loadN C y hy) rfl (by decide) (by decide) (by omega) (by omega) rfl (Nat.le_of_ble_eq_true rfl) (fun r1 h1 q1 => ?_) (fun E1 h1 q1 => ?_)
  · exact q1.elim
  · obtain ⟨rfl, rfl⟩ := q1
    refine ⟨15, hdLoad_ise, fun q => ?_⟩
    refine fx_astoren dL_load_15 (by decide) ?_
    refine fx_iconst (nI 2) dL_load_16 (by decide) ?_
    refine fx_iret dL_load_17 rfl ?_
    exact ⟨rfl, rfl, col, C, xs.rf.o⟩
theorem h_load {g : fx_G} {col : Nat → Nat} {h : fx_H} {x dq fq eq sq N len E L : Nat} {F : Nat → (Nat → Nat) × Nat × Int32} {B : Nat → Nat} {I : List sg} {T : Int64} (C : cd col h x dq fq eq sq F N B len E I T L) {po : Nat} {f0 : Nat → Int64} (hp : h po = some (.inl (3, 1, .inr (.inl f0)))) (hc : col po = 0) (hlen : len ≤ 4096) (y : Int32) (hy : ¬ noL N y) : fx_MetW g mL_load 7 167 [.ref x, .int y, .ref po] h 9 (2000 + (pot L - pot (ldL (by_ B len) len L))) (fun r h' => (ml_fa (by_ B len) len = 0 ∧ r = some (.int (nI 0)) ∧ (∃ f1 : Nat → Int64, h' po = some (.inl (3, 1, .inr (.inl f1))) ∧ f1 0 = (nI N).toInt64) ∧ ∃ col', cd col' h' x dq fq eq sq (fnew F N ((by_ B len), ml_H (by_ B len) 0, ml_z (by_ B len) y)) (N + 1) B 0 0 I T (ldL (by_ B len) len L) ∧ xo po col h col' h') ∨ (ml_fa (by_ B len) len ≠ 0 ∧ r = some (.int (nI 1)) ∧ h' po = h po ∧ ∃ col', cd col' h' x dq fq eq sq F N B 0 (ml_fa (by_ B len) len) I T (ldL (by_ B len) len L) ∧ xo po col h col' h')) := by
  have c0 := C.1
  refine fx_MetW.of rfl (Nat.le_of_ble_eq_true rfl) ?_
  refine fx_aloadn dL_load_0 rfl ?_
  refine fx_iconst (nI 0) dL_load_1 (by decide) ?_
  refine fx_aloadn dL_load_2 rfl ?_
  refine fx_iloadn dL_load_3 rfl ?_
  refine fx_callVX rfl dL_load_4 vX5_load kkL_7 rfl rfl c0 (c_cd_load C hlen y hy) rfl (by decide) (by decide) (by omega) (by omega) rfl (Nat.le_of_ble_eq_true rfl) (fun r1 h1 q1 => ?_) (fun E1 h1 q1 => ?_)
  · obtain ⟨hfa, rfl, col1, C1, X1⟩ := q1
    have hp1 := X1.po hp hc
    refine fx_i2l dL_load_7 ?_
    refine fx_lastV dL_load_8 hp1 (vp_in_nI (show 0 < 1 by decide) (by decide)) (fun h2 q2 o2 => ?_)
    obtain ⟨XO, hsm⟩ := X1.out hp hc o2
    refine fx_goto 18 dL_load_9 (by decide) ?_
    refine fx_iconst (nI 0) dL_load_18 (by decide) ?_
    refine fx_iret dL_load_19 rfl ?_
    exact Or.inl ⟨hfa, rfl, ⟨_, q2, rfl⟩, _, C1.same hsm, XO⟩
  · obtain ⟨hfa, rfl, col1, C1, X1⟩ := q1
    refine ⟨12, hdLoad_iae, fun q => ?_⟩
    refine fx_astoren dL_load_12 (by decide) ?_
    refine fx_iconst (nI 1) dL_load_13 (by decide) ?_
    refine fx_iret dL_load_14 rfl ?_
    exact Or.inr ⟨hfa, rfl, (X1.po hp hc).trans hp.symm, _, C1, X1.o⟩
theorem h_metricN {g : fx_G} {col : Nat → Nat} {h : fx_H} {x dq fq eq sq N len E L : Nat} {F : Nat → (Nat → Nat) × Nat × Int32} {B : Nat → Nat} {I : List sg} {T : Int64} (C : cd col h x dq fq eq sq F N B len E I T L) {po : Nat} {f0 : Nat → Int64} (hp : h po = some (.inl (3, 1, .inr (.inl f0)))) (hc : col po = 0) (f c y : Int32) (hy : noM F N f c y) : fx_MetW g mL_metric 7 106 [.ref x, .int f, .int c, .int y, .ref po] h 1 6 (fun r h' => r = some (.int (nI 1)) ∧ h' po = h po ∧ ∃ col', cd col' h' x dq fq eq sq F N B len E I T L ∧ xo po col h col' h') := by
  have c0 := C.1
  refine fx_MetW.of rfl (Nat.le_of_ble_eq_true rfl) ?_
  refine fx_aload dL_metric_0 rfl ?_
  refine fx_iconst (nI 0) dL_metric_2 (by decide) ?_
  refine fx_aloadn dL_metric_3 rfl ?_
  refine fx_iloadn dL_metric_4 rfl ?_
  refine fx_iloadn dL_metric_5 rfl ?_
  refine fx_iloadn dL_metric_6 rfl ?_
  refine fx_callVX rfl dL_metric_7 vX5_metric kkL_17 rfl rfl c0 (c_cd_metricN C f c y hy) rfl (by decide) (by decide) (by omega) (by omega) rfl (Nat.le_of_ble_eq_true rfl) (fun r1 h1 q1 => ?_) (fun E1 h1 q1 => ?_)
  · exact q1.elim
  · obtain ⟨rfl, rfl⟩ := q1
    refine ⟨15, hdMetric_ioo, fun q => ?_⟩
    refine fx_astore dL_metric_15 (by decide) ?_
    refine fx_iconst (nI 1) dL_metric_17 (by decide) ?_
    refine fx_iret dL_metric_18 rfl ?_
    exact ⟨rfl, rfl, col, C, xs.rf.o⟩
theorem h_metricY {g : fx_G} {col : Nat → Nat} {h : fx_H} {x dq fq eq sq N len E L : Nat} {F : Nat → (Nat → Nat) × Nat × Int32} {B : Nat → Nat} {I : List sg} {T : Int64} (C : cd col h x dq fq eq sq F N B len E I T L) {po : Nat} {f0 : Nat → Int64} (hp : h po = some (.inl (3, 1, .inr (.inl f0)))) (hc : col po = 0) (k c q : Nat) (hk : k < N) (hc9 : c < 256) (hc0 : ml_i (F k).1 c ≠ 0) (hq : q < 6) : fx_MetW g mL_metric 7 106 [.ref x, .int (nI k), .int (nI c), .int (nI q), .ref po] h 1 6 (fun r h' => r = some (.int (nI 0)) ∧ (∃ f1 : Nat → Int64, h' po = some (.inl (3, 1, .inr (.inl f1))) ∧ f1 0 = (ml_ms (F k).1 (F k).2.2 (nI c) q).toInt64) ∧ ∃ col', cd col' h' x dq fq eq sq F N B len E I T L ∧ xo po col h col' h') := by
  have c0 := C.1
  refine fx_MetW.of rfl (Nat.le_of_ble_eq_true rfl) ?_
  refine fx_aload dL_metric_0 rfl ?_
  refine fx_iconst (nI 0) dL_metric_2 (by decide) ?_
  refine fx_aloadn dL_metric_3 rfl ?_
  refine fx_iloadn dL_metric_4 rfl ?_
  refine fx_iloadn dL_metric_5 rfl ?_
  refine fx_iloadn dL_metric_6 rfl ?_
  refine fx_callVX rfl dL_metric_7 vX5_metric kkL_17 rfl rfl c0 (c_cd_metricY C k c q hk hc9 hc0 hq) rfl (by decide) (by decide) (by omega) (by omega) rfl (Nat.le_of_ble_eq_true rfl) (fun r1 h1 q1 => ?_) (fun E1 h1 q1 => ?_)
  · obtain ⟨rfl, rfl⟩ := q1
    have hp1 := hp
    refine fx_i2l dL_metric_10 ?_
    refine fx_lastV dL_metric_11 hp1 (vp_in_nI (show 0 < 1 by decide) (by decide)) (fun h2 q2 o2 => ?_)
    obtain ⟨XO, hsm⟩ := (xs.rf (col := col)).out hp hc o2
    refine fx_goto 19 dL_metric_12 (by decide) ?_
    refine fx_iconst (nI 0) dL_metric_19 (by decide) ?_
    refine fx_iret dL_metric_20 rfl ?_
    exact ⟨rfl, ⟨_, q2, rfl⟩, _, C.same hsm, XO⟩
  · exact q1.elim
theorem h_parameterN {g : fx_G} {col : Nat → Nat} {h : fx_H} {x dq fq eq sq N len E L : Nat} {F : Nat → (Nat → Nat) × Nat × Int32} {B : Nat → Nat} {I : List sg} {T : Int64} (C : cd col h x dq fq eq sq F N B len E I T L) {po : Nat} {f0 : Nat → Int64} (hp : h po = some (.inl (3, 1, .inr (.inl f0)))) (hc : col po = 0) (f y : Int32) (hy : noP N f y) : fx_MetW g mL_parameter 7 105 [.ref x, .int f, .int y, .ref po] h 1 6 (fun r h' => r = some (.int (nI 1)) ∧ h' po = h po ∧ ∃ col', cd col' h' x dq fq eq sq F N B len E I T L ∧ xo po col h col' h') := by
  have c0 := C.1
  refine fx_MetW.of rfl (Nat.le_of_ble_eq_true rfl) ?_
  refine fx_aloadn dL_parameter_0 rfl ?_
  refine fx_iconst (nI 0) dL_parameter_1 (by decide) ?_
  refine fx_aloadn dL_parameter_2 rfl ?_
  refine fx_iloadn dL_parameter_3 rfl ?_
  refine fx_iloadn dL_parameter_4 rfl ?_
  refine fx_callVX rfl dL_parameter_5 vX5_parameter kkL_23 rfl rfl c0 (c_cd_parameterN C f y hy) rfl (by decide) (by decide) (by omega) (by omega) rfl (Nat.le_of_ble_eq_true rfl) (fun r1 h1 q1 => ?_) (fun E1 h1 q1 => ?_)
  · exact q1.elim
  · obtain ⟨rfl, rfl⟩ := q1
    refine ⟨13, hdParameter_ioo, fun q => ?_⟩
    refine fx_astore dL_parameter_13 (by decide) ?_
    refine fx_iconst (nI 1) dL_parameter_15 (by decide) ?_
    refine fx_iret dL_parameter_16 rfl ?_
    exact ⟨rfl, rfl, col, C, xs.rf.o⟩
theorem h_parameterY {g : fx_G} {col : Nat → Nat} {h : fx_H} {x dq fq eq sq N len E L : Nat} {F : Nat → (Nat → Nat) × Nat × Int32} {B : Nat → Nat} {I : List sg} {T : Int64} (C : cd col h x dq fq eq sq F N B len E I T L) {po : Nat} {f0 : Nat → Int64} (hp : h po = some (.inl (3, 1, .inr (.inl f0)))) (hc : col po = 0) (k j : Nat) (hk : k < N) (hj : j + 1 < 2 ^ 31) : fx_MetW g mL_parameter 7 105 [.ref x, .int (nI k), .int (nI (j + 1)), .ref po] h 1 6 (fun r h' => r = some (.int (nI 0)) ∧ (∃ f1 : Nat → Int64, h' po = some (.inl (3, 1, .inr (.inl f1))) ∧ f1 0 = (ml_pm (F k).1 (F k).2.2 j).toInt64) ∧ ∃ col', cd col' h' x dq fq eq sq F N B len E I T L ∧ xo po col h col' h') := by
  have c0 := C.1
  refine fx_MetW.of rfl (Nat.le_of_ble_eq_true rfl) ?_
  refine fx_aloadn dL_parameter_0 rfl ?_
  refine fx_iconst (nI 0) dL_parameter_1 (by decide) ?_
  refine fx_aloadn dL_parameter_2 rfl ?_
  refine fx_iloadn dL_parameter_3 rfl ?_
  refine fx_iloadn dL_parameter_4 rfl ?_
  refine fx_callVX rfl dL_parameter_5 vX5_parameter kkL_23 rfl rfl c0 (c_cd_parameterY C k j hk hj) rfl (by decide) (by decide) (by omega) (by omega) rfl (Nat.le_of_ble_eq_true rfl) (fun r1 h1 q1 => ?_) (fun E1 h1 q1 => ?_)
  · obtain ⟨rfl, rfl⟩ := q1
    have hp1 := hp
    refine fx_i2l dL_parameter_8 ?_
    refine fx_lastV dL_parameter_9 hp1 (vp_in_nI (show 0 < 1 by decide) (by decide)) (fun h2 q2 o2 => ?_)
    obtain ⟨XO, hsm⟩ := (xs.rf (col := col)).out hp hc o2
    refine fx_goto 17 dL_parameter_10 (by decide) ?_
    refine fx_iconst (nI 0) dL_parameter_17 (by decide) ?_
    refine fx_iret dL_parameter_18 rfl ?_
    exact ⟨rfl, ⟨_, q2, rfl⟩, _, C.same hsm, XO⟩
  · exact q1.elim
theorem h_setN {g : fx_G} {col : Nat → Nat} {h : fx_H} {x dq fq eq sq N len E L : Nat} {F : Nat → (Nat → Nat) × Nat × Int32} {B : Nat → Nat} {I : List sg} {T : Int64} (C : cd col h x dq fq eq sq F N B len E I T L) {po : Nat} {f0 : Nat → Int64} (hp : h po = some (.inl (3, 1, .inr (.inl f0)))) (hc : col po = 0) (f : Int32) (hy : noF N f) : fx_MetW g mL_set 7 158 [.ref x, .int f, .ref po] h 1 6 (fun r h' => r = some (.int (nI 1)) ∧ h' po = h po ∧ ∃ col', cd col' h' x dq fq eq sq F N B 0 E [] 0 L ∧ xo po col h col' h') := by
  have c0 := C.1
  refine fx_MetW.of rfl (Nat.le_of_ble_eq_true rfl) ?_
  refine fx_aloadn dL_set_0 rfl ?_
  refine fx_iconst (nI 0) dL_set_1 (by decide) ?_
  refine fx_aloadn dL_set_2 rfl ?_
  refine fx_iloadn dL_set_3 rfl ?_
  refine fx_callVX rfl dL_set_4 vX5_set kkL_27 rfl rfl c0 (c_cd_setN C f hy) rfl (by decide) (by decide) (by omega) (by omega) rfl (Nat.le_of_ble_eq_true rfl) (fun r1 h1 q1 => ?_) (fun E1 h1 q1 => ?_)
  · exact q1.elim
  · obtain ⟨rfl, col1, C1, X1⟩ := q1
    refine ⟨12, hdSet_ioo, fun q => ?_⟩
    refine fx_astoren dL_set_12 (by decide) ?_
    refine fx_iconst (nI 1) dL_set_13 (by decide) ?_
    refine fx_iret dL_set_14 rfl ?_
    exact ⟨rfl, (X1.po hp hc).trans hp.symm, _, C1, X1.o⟩
theorem h_setY {g : fx_G} {col : Nat → Nat} {h : fx_H} {x dq fq eq sq N len E L : Nat} {F : Nat → (Nat → Nat) × Nat × Int32} {B : Nat → Nat} {I : List sg} {T : Int64} (C : cd col h x dq fq eq sq F N B len E I T L) {po : Nat} {f0 : Nat → Int64} (hp : h po = some (.inl (3, 1, .inr (.inl f0)))) (hc : col po = 0) (k : Nat) (hk : k < N) (hB : ∀ j, j < len → B j < 256) : fx_MetW g mL_set 7 158 [.ref x, .int (nI k), .ref po] h 1 6 (fun r h' => (¬ mz_ok9 (F k).1 B len ∧ r = some (.int (nI 2)) ∧ h' po = h po ∧ ∃ col', cd col' h' x dq fq eq sq F N B 0 E [] 0 L ∧ xo po col h col' h') ∨ (mz_ok9 (F k).1 B len ∧ mz_run (F k).1 (F k).2.2 10000 [] (3, nI 256) (wdf B 0 len ++ [(3, ml_bd (F k).1)]) = none ∧ r = some (.int (nI 3)) ∧ h' po = h po ∧ ∃ col', cd col' h' x dq fq eq sq F N B 0 E [] 0 L ∧ xo po col h col' h') ∨ (mz_ok9 (F k).1 B len ∧ ∃ LL, mz_run (F k).1 (F k).2.2 10000 [] (3, nI 256) (wdf B 0 len ++ [(3, ml_bd (F k).1)]) = some LL ∧ r = some (.int (nI 0)) ∧ (∃ f1 : Nat → Int64, h' po = some (.inl (3, 1, .inr (.inl f1))) ∧ f1 0 = (nI (nf LL).length).toInt64) ∧ ∃ col', cd col' h' x dq fq eq sq F N B 0 E (nf LL) (mz_w (F k).1 (F k).2.2 0 (nf LL)) L ∧ xo po col h col' h')) := by
  have c0 := C.1
  refine fx_MetW.of rfl (Nat.le_of_ble_eq_true rfl) ?_
  refine fx_aloadn dL_set_0 rfl ?_
  refine fx_iconst (nI 0) dL_set_1 (by decide) ?_
  refine fx_aloadn dL_set_2 rfl ?_
  refine fx_iloadn dL_set_3 rfl ?_
  refine fx_callVX rfl dL_set_4 vX5_set kkL_27 rfl rfl c0 (c_cd_setY C k hk hB) rfl (by decide) (by decide) (by omega) (by omega) rfl (Nat.le_of_ble_eq_true rfl) (fun r1 h1 q1 => ?_) (fun E1 h1 q1 => ?_)
  · obtain ⟨LL, hok, hL1, rfl, col1, C1, X1⟩ := q1
    have hp1 := X1.po hp hc
    refine fx_i2l dL_set_7 ?_
    refine fx_lastV dL_set_8 hp1 (vp_in_nI (show 0 < 1 by decide) (by decide)) (fun h2 q2 o2 => ?_)
    obtain ⟨XO, hsm⟩ := X1.out hp hc o2
    refine fx_goto 21 dL_set_9 (by decide) ?_
    refine fx_iconst (nI 0) dL_set_21 (by decide) ?_
    refine fx_iret dL_set_22 rfl ?_
    exact Or.inr (Or.inr ⟨hok, LL, hL1, rfl, ⟨_, q2, rfl⟩, _, C1.same hsm, XO⟩)
  · rcases q1 with ⟨rfl, hok, col1, C1, X1⟩ | ⟨rfl, hok, hL1, col1, C1, X1⟩
    · refine ⟨15, hdSet_iae, fun q => ?_⟩
      refine fx_astoren dL_set_15 (by decide) ?_
      refine fx_iconst (nI 2) dL_set_16 (by decide) ?_
      refine fx_iret dL_set_17 rfl ?_
      exact Or.inl ⟨hok, rfl, (X1.po hp hc).trans hp.symm, _, C1, X1.o⟩
    · refine ⟨18, hdSet_ise, fun q => ?_⟩
      refine fx_astoren dL_set_18 (by decide) ?_
      refine fx_iconst (nI 3) dL_set_19 (by decide) ?_
      refine fx_iret dL_set_20 rfl ?_
      exact Or.inr (Or.inl ⟨hok, hL1, rfl, (X1.po hp hc).trans hp.symm, _, C1, X1.o⟩)
