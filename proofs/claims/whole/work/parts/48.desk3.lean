/-! FontDesk: load -/
def pot (L : Nat) : Nat := if 65792 ≤ L then 0 else 592128 - 6 * L
theorem pot_en (L rows : Nat) (hL : L ≤ 65792) (hr : rows ≤ 257) : ens L rows + pot (enl L rows) ≤ pot L := by
  unfold ens pot
  by_cases h : L < 256 * rows
  · rw [if_pos h]
    have h1 : enl L rows = 65792 ∨ (enl L rows < 65792 ∧ 2 * L ≤ enl L rows) := by
      unfold enl
      rw [if_pos h]
      by_cases h2 : (if 256 * rows < 2 * L then 2 * L else 256 * rows) < 65792
      · rw [if_pos h2]
        refine Or.inr ⟨h2, ?_⟩
        split <;> omega
      · rw [if_neg h2]
        exact Or.inl rfl
    rcases h1 with h1 | ⟨h1, h2⟩
    · rw [h1, if_pos (Nat.le_refl _)]
      split <;> omega
    · rw [if_neg (by omega)]
      split <;> omega
  · rw [if_neg h]
    have h1 : enl L rows = L := if_neg h
    rw [h1]
    omega
/-- how large the endings' tables are behind a load -/
noncomputable def ldL (b : Nat → Nat) (len L : Nat) : Nat := @ite _ (ml_f1 b len ∧ ml_ftC b = 0) (Classical.propDecidable _) (enl L (ml_rk b 257)) L
theorem ld_le (b : Nat → Nat) (len L : Nat) (hL : L ≤ 65792) : pot (ldL b len L) ≤ pot L := by
  unfold ldL
  split
  · have := pot_en L (ml_rk b 257) hL (rk_le b 257)
    omega
  · exact Nat.le_refl _
theorem en.live {h : fx_H} {e pr pg pt pa pl rows L : Nat} {fr fg ft fa fl : Nat → Int32} (E : en h e pr pg pt pa pl fr fg ft fa fl rows L) : ∀ q, eS e pr pg pt pa pl q → h q ≠ none := by
  obtain ⟨e1, e2, e3, e4, e5, e6⟩ := E
  intro q hq
  rcases hq with rfl | rfl | rfl | rfl | rfl | rfl
  · rw [e1]; exact fun z => by cases z
  · rw [e2]; exact fun z => by cases z
  · rw [e3]; exact fun z => by cases z
  · rw [e4]; exact fun z => by cases z
  · rw [e5]; exact fun z => by cases z
  · rw [e6]; exact fun z => by cases z
theorem cd.ge {col : Nat → Nat} {h : fx_H} {x dq fq eq sq N len E L : Nat} {F : Nat → (Nat → Nat) × Nat × Int32} {B : Nat → Nat} {I : List sg} {T : Int64} {c : Nat} {col' : Nat → Nat} {h' : fx_H} (C : cd col h x dq fq eq sq F N B len E I T L) (X : xt c col h col' h') (hc : 6 + N ≤ c) : cd col' h' x dq fq eq sq F N B len E I T L := by
  obtain ⟨c0, cx, CD, CF, CE, CS, clv, hL, hN, hI9, hfk⟩ := id C
  have e0 := X.x c0 cx (by omega)
  exact ⟨e0.1, e0.2, CD.xt X (by omega), CF.xt X (by omega) (fun k _ => by omega), CE.xt X (by omega), CS.xt X (by omega), X.2.1, hL, hN, hI9, hfk⟩
theorem cd.setX {col : Nat → Nat} {h : fx_H} {x dq fq eq sq N len E L : Nat} {F : Nat → (Nat → Nat) × Nat × Int32} {B : Nat → Nat} {I : List sg} {T : Int64} {h' : fx_H} {E' : Nat} (C : cd col h x dq fq eq sq F N B len E I T L) (e : h' x = some (.inr (4, [.ref dq, .ref fq, .ref eq, .ref sq, .int (nI N), .int (nI E')]))) (o : ∀ y, y ≠ x → h' y = h y) : xt 1 col h (rc col 1 (fun q => q = x)) h' ∧ cd (rc col 1 (fun q => q = x)) h' x dq fq eq sq F N B len E' I T L := by
  obtain ⟨c0, cx, CD, CF, CE, CS, clv, hL, hN, hI9, hfk⟩ := id C
  have X : xt 1 col h (rc col 1 (fun q => q = x)) h' := xt.of (S := fun q => q = x) clv (fun y _ hy => o y hy) (by decide) (fun q hq _ => by rw [hq]; exact cx) _ (fun q hq => by rw [hq, e]; exact fun z => by cases z) (fun q hq => Or.inl (by rw [hq]; exact cx))
  exact ⟨X, e, rc_in (R := fun q => q = x) rfl, CD.xt X (by decide), CF.xt X (by decide) (fun k _ => by omega), CE.xt X (by decide), CS.xt X (by decide), X.2.1, hL, hN, hI9, hfk⟩
theorem cd.setE {col : Nat → Nat} {h : fx_H} {x dq fq eq sq N len E L : Nat} {F : Nat → (Nat → Nat) × Nat × Int32} {B : Nat → Nat} {I : List sg} {T : Int64} {h' : fx_H} {pr pg pt pa pl pt' pa' pl' rows' L' : Nat} {fr' fg' ft' fa' fl' : Nat → Int32} (C : cd col h x dq fq eq sq F N B len E I T L) (cE : ∀ q, eS eq pr pg pt pa pl q → col q = 4) (E9 : en h' eq pr pg pt' pa' pl' fr' fg' ft' fa' fl' rows' L') (N9 : eap pr pg pt' pa' pl') (hL' : L' ≤ 65792) (hfr : ∀ q, q = pt' ∨ q = pa' ∨ q = pl' → q = pt ∨ q = pa ∨ q = pl ∨ h q = none) (k : kp (eS eq pr pg pt pa pl) h h') : xt 4 col h (rc col 4 (eS eq pr pg pt' pa' pl')) h' ∧ cd (rc col 4 (eS eq pr pg pt' pa' pl')) h' x dq fq eq sq F N B len E I T L' := by
  obtain ⟨c0, cx, CD, CF, CE, CS, clv, hL, hN, hI9, hfk⟩ := id C
  have hold : ∀ q, q = pt ∨ q = pa ∨ q = pl → col q = 4 := fun q hq => cE q (by rcases hq with z | z | z <;> simp [eS, z])
  have X : xt 4 col h (rc col 4 (eS eq pr pg pt' pa' pl')) h' := xt.of clv k (by decide) (fun q hq _ => cE q hq) _ E9.live (fun q hq => by
    rcases hq with z | z | z | z
    · exact Or.inl (cE q (by simp [eS, z]))
    · exact Or.inl (cE q (by simp [eS, z]))
    · exact Or.inl (cE q (by simp [eS, z]))
    · rcases hfr q z with y | y | y | y
      · exact Or.inl (hold q (Or.inl y))
      · exact Or.inl (hold q (Or.inr (Or.inl y)))
      · exact Or.inl (hold q (Or.inr (Or.inr y)))
      · exact Or.inr y)
  have e0 := X.x c0 cx (by decide)
  exact ⟨X, e0.1, e0.2, CD.xt X (by decide), CF.xt X (by decide) (fun k _ => by omega), ⟨pr, pg, pt', pa', pl', fr', fg', ft', fa', fl', rows', E9, N9, fun q hq => rc_in hq⟩, CS.xt X (by decide), X.2.1, hL', hN, hI9, hfk⟩
theorem fi.live {h : fx_H} {a pw ps pl pi nw : Nat} {fw fs fl fz : Nat → Int32} (f : fi h a pw ps pl pi nw fw fs fl fz) : ∀ q, q = a ∨ q = pw ∨ q = ps ∨ q = pl ∨ q = pi → h q ≠ none := by
  obtain ⟨e1, e2, e3, e4, e5⟩ := f
  intro q hq
  rcases hq with rfl | rfl | rfl | rfl | rfl
  · rw [e1]; exact fun z => by cases z
  · rw [e2]; exact fun z => by cases z
  · rw [e3]; exact fun z => by cases z
  · rw [e4]; exact fun z => by cases z
  · rw [e5]; exact fun z => by cases z
/-- one font more -/
theorem cd.add {col : Nat → Nat} {h : fx_H} {x dq fq eq sq N len E L : Nat} {F : Nat → (Nat → Nat) × Nat × Int32} {B : Nat → Nat} {I : List sg} {T : Int64} {h1 h2 : fx_H} {a nw : Nat} {b : Nat → Nat} {z : Int32} {fs : Nat → Option Nat} (C : cd col h x dq fq eq sq F N B len E I T L) (hN1 : N < 32) (H : fo (fun q => col q = 6 + N) h a b nw z) (V : fok b nw) (f0 : h fq = some (.inl (4, 32, .inr (.inr (.inr (.inr fs)))))) (hfs : ∀ k, k < N → ∃ ad, fs k = some ad ∧ fo (fun q => col q = 6 + k) h ad (F k).1 (F k).2.1 (F k).2.2)
    (e1 : h1 fq = some (.inl (4, 32, .inr (.inr (.inr (.inr (va_up fs N (some a)))))))) (o1 : ∀ y, y ≠ fq → h1 y = h y) (e2 : h2 x = some (.inr (4, [.ref dq, .ref fq, .ref eq, .ref sq, .int (nI (N + 1)), .int (nI E)]))) (o2 : ∀ y, y ≠ x → h2 y = h1 y) : ∃ col', cd col' h2 x dq fq eq sq (fnew F N (b, nw, z)) (N + 1) B len E I T L ∧ xs col h col' h2 := by
  obtain ⟨c0, cx, CD, CF, CE, CS, clv, hL, hN, hI9, hfk⟩ := id C
  have cf : col fq = 3 := by
    obtain ⟨fs', f', c', -⟩ := CF
    exact c'
  have X1 : xt 3 col h (rc col 3 (fun q => q = fq)) h1 := xt.of (S := fun q => q = fq) clv (fun y _ hy => o1 y hy) (by decide) (fun q hq _ => by rw [hq]; exact cf) _ (fun q hq => by rw [hq, e1]; exact fun z => by cases z) (fun q hq => Or.inl (by rw [hq]; exact cf))
  have e0 := X1.x c0 cx (by decide)
  have X2 : xt 1 (rc col 3 (fun q => q = fq)) h1 (rc (rc col 3 (fun q => q = fq)) 1 (fun q => q = x)) h2 := xt.of (S := fun q => q = x) X1.2.1 (fun y _ hy => o2 y hy) (by decide) (fun q hq _ => by rw [hq]; exact e0.2) _ (fun q hq => by rw [hq, e2]; exact fun z => by cases z) (fun q hq => Or.inl (by rw [hq]; exact e0.2))
  have r3 : rc col 3 (fun q => q = fq) fq = 3 := rc_in (R := fun q => q = fq) rfl
  have r1 : rc (rc col 3 (fun q => q = fq)) 1 (fun q => q = x) x = 1 := rc_in (R := fun q => q = x) rfl
  have ef := X2.1 fq (by rw [r3]; decide) (by rw [r3]; decide)
  refine ⟨rc (rc col 3 (fun q => q = fq)) 1 (fun q => q = x), ⟨e2, r1, (CD.xt X1 (by decide)).xt X2 (by decide), ⟨va_up fs N (some a), ef.1.trans e1, ef.2.trans r3, fun k hk => ?_⟩, (CE.xt X1 (by decide)).xt X2 (by decide), (CS.xt X1 (by decide)).xt X2 (by decide), X2.2.1, hL, by omega, hI9, fun k hk => ?_⟩, X1.s.tr X2.s⟩
  · by_cases q : k = N
    · rw [q, fnew_s]
      exact ⟨a, va_up_self _ _ _, (H.xt X1 (by omega) (by omega)).xt X2 (by omega) (by omega)⟩
    · rw [fnew_n q]
      obtain ⟨ad, q1, q2⟩ := hfs k (by omega)
      exact ⟨ad, (va_up_ne _ _ q).trans q1, (q2.xt X1 (by omega) (by omega)).xt X2 (by omega) (by omega)⟩
  · by_cases q : k = N
    · rw [q, fnew_s]
      exact V
    · rw [fnew_n q]
      exact hfk k (by omega)
theorem c_cd_loadN {g : fx_G} {col : Nat → Nat} {h : fx_H} {x dq fq eq sq N len E L : Nat} {F : Nat → (Nat → Nat) × Nat × Int32} {B : Nat → Nat} {I : List sg} {T : Int64} (C : cd col h x dq fq eq sq F N B len E I T L) (y : Int32) (hy : noL N y) : fx_MetX g mX5_load 6 145 [.ref x, .int y] h 1 6 (fun _ _ => False) (fun E9 h' => E9 = fx_ise ∧ h' = h) := by
  obtain ⟨c0, cx, CD, CF, CE, CS, clv, hL, hN, hI9, hfk⟩ := id C
  refine fx_MetX.of rfl (Nat.le_of_ble_eq_true rfl) ?_
  rcases hy with (hy | hy) | hy
  · skip
    refine fx_iloadn dX5_load_0 rfl ?_
    refine fx_if_lt 19 dX5_load_1 (by decide) (fun c1 => ?_) (fun c1 => absurd (hy) c1)
    exact th_ise (text := "no such size, or no room for a font") rfl rfl (List.mem_of_getElem? (i := 0) rfl) dX5_load_19 dX5_load_22 dX5_load_23 dX5_load_25 dX5_load_28 (by decide) (by decide) (by omega) (by omega) ⟨rfl, rfl⟩
  · have hx0 : ¬ y < 0 := fun z => absurd (Int32.lt_trans hy z) (by decide)
    refine fx_iloadn dX5_load_0 rfl ?_
    refine fx_if_lt 19 dX5_load_1 (by decide) (fun c1 => absurd c1 (hx0)) (fun c1 => ?_)
    refine fx_iloadn dX5_load_4 rfl ?_
    refine fx_ldc dX5_load_5 qqX5_47 ?_
    refine fx_icmp_gt 19 dX5_load_7 (by decide) (fun c7 => ?_) (fun c7 => absurd (hy) c7)
    exact th_ise (text := "no such size, or no room for a font") rfl rfl (List.mem_of_getElem? (i := 0) rfl) dX5_load_19 dX5_load_22 dX5_load_23 dX5_load_25 dX5_load_28 (by decide) (by decide) (by omega) (by omega) ⟨rfl, rfl⟩
  · by_cases hx0 : y < 0
    · have hy := hx0
      refine fx_iloadn dX5_load_0 rfl ?_
      refine fx_if_lt 19 dX5_load_1 (by decide) (fun c1 => ?_) (fun c1 => absurd (hy) c1)
      exact th_ise (text := "no such size, or no room for a font") rfl rfl (List.mem_of_getElem? (i := 0) rfl) dX5_load_19 dX5_load_22 dX5_load_23 dX5_load_25 dX5_load_28 (by decide) (by decide) (by omega) (by omega) ⟨rfl, rfl⟩
    · by_cases hx1 : nI 134217727 < y
      · have hy := hx1
        refine fx_iloadn dX5_load_0 rfl ?_
        refine fx_if_lt 19 dX5_load_1 (by decide) (fun c1 => absurd c1 (hx0)) (fun c1 => ?_)
        refine fx_iloadn dX5_load_4 rfl ?_
        refine fx_ldc dX5_load_5 qqX5_47 ?_
        refine fx_icmp_gt 19 dX5_load_7 (by decide) (fun c7 => ?_) (fun c7 => absurd (hy) c7)
        exact th_ise (text := "no such size, or no room for a font") rfl rfl (List.mem_of_getElem? (i := 0) rfl) dX5_load_19 dX5_load_22 dX5_load_23 dX5_load_25 dX5_load_28 (by decide) (by decide) (by omega) (by omega) ⟨rfl, rfl⟩
      · skip
        refine fx_iloadn dX5_load_0 rfl ?_
        refine fx_if_lt 19 dX5_load_1 (by decide) (fun c1 => absurd c1 (hx0)) (fun c1 => ?_)
        refine fx_iloadn dX5_load_4 rfl ?_
        refine fx_ldc dX5_load_5 qqX5_47 ?_
        refine fx_icmp_gt 19 dX5_load_7 (by decide) (fun c7 => absurd c7 (hx1)) (fun c7 => ?_)
        refine fx_aloadn dX5_load_10 rfl ?_
        refine fx_get dX5_load_11 ffX5_36 c0 rfl ?_
        refine fx_bipush (nI 32) dX5_load_14 (by decide) ?_
        refine fx_icmp_lt 29 dX5_load_16 (by decide) (fun c16 => absurd c16 (by rw [hy]; decide)) (fun c16 => ?_)
        exact th_ise (text := "no such size, or no room for a font") rfl rfl (List.mem_of_getElem? (i := 0) rfl) dX5_load_19 dX5_load_22 dX5_load_23 dX5_load_25 dX5_load_28 (by decide) (by decide) (by omega) (by omega) ⟨rfl, rfl⟩
theorem ftC_0 {b : Nat → Nat} (h3 : ml_ftC b = 0) : ml_f3C b ∧ ml_f5 b := by
  refine ⟨Classical.byContradiction fun q => ?_, Classical.byContradiction fun q => ?_⟩
  · unfold ml_ftC at h3
    split at h3
    · omega
    · first | omega | (rw [if_neg q] at h3; omega)
  · unfold ml_ftC at h3
    split at h3
    · omega
    · split at h3
      · split at h3
        · first | omega | (rw [if_neg q] at h3; omega)
        · omega
      · omega
theorem fo_scl {col : Nat → Nat} {h h' : fx_H} {a nw c : Nat} {b : Nat → Nat} {z z' : Int32} (H : fo (fun q => col q = c) h a b nw z) (H' : fo (fun q => col q = c) h' a b nw z') (clv : ∀ q, col q ≠ 0 → h q ≠ none) (k : kp (fun q => q = a) h h') (hc : c ≠ 0) : ∃ col', xt c col h col' h' ∧ fo (fun q => col' q = c) h' a b nw z' := by
  have ca : col a = c := by
    obtain ⟨pw, ps, pl, pi, fw, fs, fl, fi, -, -, -, -, -, -, -, -, s1, -⟩ := H
    exact s1
  have X : xt c col h (rc col c (fun q => col q = c ∧ h' q ≠ none)) h' := xt.of clv k hc (fun q hq _ => by rw [show q = a from hq]; exact ca) _ (fun q hq => hq.2) (fun q hq => Or.inl hq.1)
  refine ⟨_, X, ?_⟩
  obtain ⟨pw, ps, pl, pi, fw, fs, fl, fi, e1, e2, e3, e4, e5, e6, e7, e8, s1, s2, s3, s4, s5⟩ := H'
  exact ⟨pw, ps, pl, pi, fw, fs, fl, fi, e1, e2, e3, e4, e5, e6, e7, e8, rc_in ⟨s1, by rw [e1]; exact fun z => by cases z⟩, rc_in ⟨s2, by rw [e2]; exact fun z => by cases z⟩, rc_in ⟨s3, by rw [e3]; exact fun z => by cases z⟩, rc_in ⟨s4, by rw [e4]; exact fun z => by cases z⟩, rc_in ⟨s5, by rw [e5]; exact fun z => by cases z⟩⟩
theorem c_cd_load {g : fx_G} {col : Nat → Nat} {h : fx_H} {x dq fq eq sq N len E L : Nat} {F : Nat → (Nat → Nat) × Nat × Int32} {B : Nat → Nat} {I : List sg} {T : Int64} (C0 : cd col h x dq fq eq sq F N B len E I T L) (hlen : len ≤ 4096) (y : Int32) (hy : ¬ noL N y) : fx_MetX g mX5_load 6 145 [.ref x, .int y] h 9 (2000 + (pot L - pot (ldL (by_ B len) len L))) (fun r h' => ml_fa (by_ B len) len = 0 ∧ r = some (.int (nI N)) ∧ ∃ col', cd col' h' x dq fq eq sq (fnew F N ((by_ B len), ml_H (by_ B len) 0, ml_z (by_ B len) y)) (N + 1) B 0 0 I T (ldL (by_ B len) len L) ∧ xs col h col' h') (fun E9 h' => ml_fa (by_ B len) len ≠ 0 ∧ E9 = fx_iae ∧ ∃ col', cd col' h' x dq fq eq sq F N B 0 (ml_fa (by_ B len) len) I T (ldL (by_ B len) len L) ∧ xs col h col' h') := by
  have hN : N ≤ 32 := C0.2.2.2.2.2.2.2.2.1
  have hLc : L ≤ 65792 := C0.2.2.2.2.2.2.2.1
  have hfk : foks F N := C0.2.2.2.2.2.2.2.2.2.2
  obtain ⟨c0, cx, CD0, CF0, CE0, CS0, clv0, -⟩ := id C0
  obtain ⟨pb0, cap0, D0, cA0, cB0⟩ := CD0
  obtain ⟨d00, -⟩ := id D0
  have hx0 : ¬ y < 0 := fun z => hy (Or.inl (Or.inl z))
  have hx1 : ¬ nI 134217727 < y := fun z => hy (Or.inl (Or.inr z))
  have hN32 : N ≠ 32 := fun z => hy (Or.inr z)
  refine fx_MetX.of rfl (Nat.le_of_ble_eq_true rfl) ?_
  by_cases hf1 : ml_f1 (by_ B len) len
  · obtain ⟨nw, hnb, V⟩ : ∃ nw, len = 4 * nw ∧ ml_v (by_ B len) nw := ⟨ml_H (by_ B len) 0, hf1.2.1, D0.by_lt, by rw [← hf1.2.1]; exact hf1⟩
    have hnw : nw = ml_H (by_ B len) 0 := V.nw.2
    have hftl := ftC_le (by_ B len)
    by_cases hft : ml_ftC (by_ B len) = 0
    · have hv9 := ftC_0 hft
      have F5 := hv9.2
      have F3 := f3_a hv9.1
      have hnb9 : fok (by_ B len) nw := ⟨V, hv9.1, hv9.2⟩
      have hpe := pot_en L (ml_rk (by_ B len) 257) hLc (rk_le (by_ B len) 257)
      have hmse : ldL (by_ B len) len L = enl L (ml_rk (by_ B len) 257) := if_pos ⟨hf1, hft⟩
      rw [hmse]
      refine fx_iloadn dX5_load_0 rfl ?_
      refine fx_if_lt 19 dX5_load_1 (by decide) (fun c1 => absurd c1 (hx0)) (fun c1 => ?_)
      refine fx_iloadn dX5_load_4 rfl ?_
      refine fx_ldc dX5_load_5 qqX5_47 ?_
      refine fx_icmp_gt 19 dX5_load_7 (by decide) (fun c7 => absurd c7 (hx1)) (fun c7 => ?_)
      refine fx_aloadn dX5_load_10 rfl ?_
      refine fx_get dX5_load_11 ffX5_36 c0 rfl ?_
      refine fx_bipush (nI 32) dX5_load_14 (by decide) ?_
      refine fx_icmp_lt 29 dX5_load_16 (by decide) (fun c16 => ?_) (fun c16 => absurd (nI_lt (show N < 32 by omega) (by decide)) c16)
      refine fx_aloadn dX5_load_29 rfl ?_
      refine fx_get dX5_load_30 ffX5_10 c0 rfl ?_
      refine fx_callSp dX5_load_33 vX2_halvesFit kkX5_55 (p_fc_halvesFit D0) rfl (by decide) (by decide) rfl (Nat.le_of_ble_eq_true rfl) ?_
      refine fx_if_eq 53 dX5_load_36 (by decide) (fun c36 => absurd c36 (bI_n0.mpr hf1)) (fun c36 => ?_)
      refine fx_newV (ci := 2) tyX3 [.null, .null, .null, .null, .int 0] dX5_load_39 rfl iiX3 tyX3_ok ccX5_16 szX3 inX3 (fun j hj => by match j, hj with | 0, _ => rfl | 1, _ => rfl | 2, _ => rfl | 3, _ => rfl | 4, _ => rfl) (by omega) (by omega) (fun a h1 ha1 e1 o1 => ?_)
      have c0a := (o1 x (ne_new c0 ha1)).trans c0
      have D0a : dr h1 dq pb0 cap0 len B := D0.kc (S := fun q => q = a) (fun q _ z => o1 q z) (ne_new d00 ha1) (fun z => D0.live pb0 (Or.inr rfl) (by rw [z]; exact ha1))
      refine fx_dup dX5_load_42 rfl ?_
      refine fx_aloadn dX5_load_43 rfl ?_
      refine fx_get dX5_load_44 ffX5_10 c0a rfl ?_
      refine fx_callC dX5_load_47 vX3_init kkX5_61 (c_fo_init e1 D0a V hnb) rfl (by decide) (by decide) (by omega) (by omega) rfl (Nat.le_of_ble_eq_true rfl) (fun r2 h2 hk2 => ?_)
      obtain ⟨rfl, pw, ps, pl, pi, fw, fs, fl, fz, fi2, w1, w2, w3, nw1, nw2, nw3, nw4, k2⟩ := hk2
      have hn0 : ∀ q, h1 q = none → h q = none := fun q hq => by
        by_cases z : q = a
        · rw [z]; exact ha1
        · rw [← o1 q z]; exact hq
      have k02 : kp (fun q => q = a) h h2 := (kp.put (kp.rf (S := fun q => q = a)) o1 (Or.inl rfl)).tr k2 (fun _ z _ => z)
      have X2 : xt (6 + N) col h (rc col (6 + N) (fun q => q = a ∨ q = pw ∨ q = ps ∨ q = pl ∨ q = pi)) h2 := xt.of clv0 k02 (by omega) (fun q hq hl => by rw [show q = a from hq, ha1] at hl; exact absurd rfl hl) _ fi2.live (fun q hq => Or.inr (by rcases hq with rfl | rfl | rfl | rfl | rfl; exact ha1; exact hn0 _ nw1; exact hn0 _ nw2; exact hn0 _ nw3; exact hn0 _ nw4))
      have H2 : fo (fun q => rc col (6 + N) (fun q => q = a ∨ q = pw ∨ q = ps ∨ q = pl ∨ q = pi) q = 6 + N) h2 a (by_ B len) nw (nI 0) := ⟨pw, ps, pl, pi, fw, fs, fl, fz, fi2.1, fi2.2.1, fi2.2.2.1, fi2.2.2.2.1, fi2.2.2.2.2, w1, w2, w3, rc_in (by simp), rc_in (by simp), rc_in (by simp), rc_in (by simp), rc_in (by simp)⟩
      have C2 := C0.ge X2 (Nat.le_refl _)
      obtain ⟨c0, cx, CD2, CF2, CE2, CS2, clv2, -⟩ := id C2
      obtain ⟨pb2, cap2, D2, cA2, cB2⟩ := CD2
      obtain ⟨d20, -⟩ := id D2
      refine fx_goto 54 dX5_load_50 (by decide) ?_
      refine fx_astoren dX5_load_54 (by decide) ?_
      refine fx_aloadn dX5_load_55 rfl ?_
      refine fx_get dX5_load_56 ffX5_10 c0 rfl ?_
      refine fx_callV dX5_load_59 vX0_clear kkX5_64 rfl rfl d20 (c_dr_clear D2) rfl (by decide) (by decide) (Nat.zero_le _) (Nat.zero_le _) rfl (Nat.le_of_ble_eq_true rfl) (fun r3 h3 hk3 => ?_)
      obtain ⟨rfl, p3', n3', D3', hp3, k3⟩ := hk3
      obtain ⟨X3, C3⟩ := C2.setD D2 cA2 cB2 D3' hp3 k3
      have c0 := C3.1
      have H3 := H2.xt X3 (by omega) (by omega)
      obtain ⟨gf3, a30⟩ := H3.at
      refine fx_aloadn dX5_load_62 rfl ?_
      refine fx_aloadn dX5_load_63 rfl ?_
      refine fx_callSp dX5_load_64 vX2_faultOf kkX5_67 (p_fc_faultOf H3 V) rfl (by decide) (by decide) rfl (Nat.le_of_ble_eq_true rfl) ?_
      refine fx_putV dX5_load_67 ffX5_40 c0 rfl rfl (Nat.le_of_ble_eq_true rfl) (fun h4 q4 o4 => ?_)
      obtain ⟨X4, C4⟩ := C3.setX (E' := (ml_ftC (by_ B len))) q4 o4
      have c0 := C4.1
      have H4 := H3.xt X4 (by omega) (by omega)
      obtain ⟨gf4, a40⟩ := H4.at
      refine fx_aloadn dX5_load_70 rfl ?_
      refine fx_ifnullR dX5_load_71 ?_
      refine fx_aloadn dX5_load_74 rfl ?_
      refine fx_get dX5_load_75 ffX5_40 c0 rfl ?_
      refine fx_if_ne 98 dX5_load_78 (by decide) (fun c78 => absurd (by rw [hft]; rfl) c78) (fun c78 => ?_)
      refine fx_aloadn dX5_load_81 rfl ?_
      refine fx_get dX5_load_82 ffX5_25 c0 rfl ?_
      refine fx_aloadn dX5_load_85 rfl ?_
      obtain ⟨-, cx4, CD4, CF4, CE4, CS4, clv4, hL4, -⟩ := id C4
      obtain ⟨epr, epg, ept, epa, epl, efr, efg, eft, efa, efl, erows, En, Ea, cE⟩ := CE4
      refine fx_callV dX5_load_86 vX1_allEnd kkX5_71 rfl rfl En.1 (c_en_allEnd En Ea hL4 H4 V F5 F3 (fun q hq => ⟨clv4 q (by rw [show _ = 6 + N from hq]; omega), fun z => by have z1 := cE q z; rw [show _ = 6 + N from hq] at z1; omega⟩)) rfl (by decide) (by decide) (by omega) (by omega) rfl (Nat.le_of_ble_eq_true rfl) (fun r5 h5 hk5 => ?_)
      obtain ⟨rfl, ept', epa', epl', efr', efg', eft', efa', efl', En', Ea', hfr5, k5⟩ := hk5
      obtain ⟨X5, C5⟩ := C4.setE cE En' Ea' (enl_le hL4) hfr5 k5
      have c0 := C5.1
      have H5 := H4.xt X5 (by omega) (by omega)
      obtain ⟨gf5, a50⟩ := H5.at
      rw [hft] at C5 c0
      have hld : ldL (by_ B len) len L = enl L (ml_rk (by_ B len) 257) := if_pos ⟨hf1, hft⟩
      by_cases hf7 : ml_f7 (by_ B len)
      · skip
        refine fx_if_ne 98 dX5_load_89 (by decide) (fun c89 => ?_) (fun c89 => absurd c89 (bI_n0.mpr hf7))
        refine fx_aloadn dX5_load_98 rfl ?_
        refine fx_ifnullR dX5_load_99 ?_
        refine fx_aloadn dX5_load_102 rfl ?_
        refine fx_get dX5_load_103 ffX5_40 c0 rfl ?_
        refine fx_if_eq 119 dX5_load_106 (by decide) (fun c106 => ?_) (fun c106 => absurd (by decide) c106)
        refine fx_aloadn dX5_load_119 rfl ?_
        refine fx_iloadn dX5_load_120 rfl ?_
        obtain ⟨-, cx5, CD5, CF5, CE5, CS5, clv5, -⟩ := id C5
        refine fx_callV dX5_load_121 vX3_scaleTo kkX5_80 rfl rfl a50 (c_fo_scaleTo H5 V y) rfl (by decide) (by decide) (Nat.zero_le _) (Nat.zero_le _) rfl (Nat.le_of_ble_eq_true rfl) (fun r6 h6 hk6 => ?_)
        obtain ⟨rfl, H6, k6⟩ := hk6
        obtain ⟨col6, X6, H6'⟩ := fo_scl H5 H6 clv5 k6 (by omega)
        have C6 := C5.ge X6 (Nat.le_refl _)
        obtain ⟨c0, cx6, CD6, CF6, -⟩ := id C6
        obtain ⟨fs6, f60, cf6, hfs6⟩ := CF6
        obtain ⟨gf6, a60⟩ := H6'.at
        rw [← hnw]
        refine fx_aloadn dX5_load_124 rfl ?_
        refine fx_get dX5_load_125 ffX5_18 c0 rfl ?_
        refine fx_aloadn dX5_load_128 rfl ?_
        refine fx_get dX5_load_129 ffX5_36 c0 rfl ?_
        refine fx_aloadn dX5_load_132 rfl ?_
        refine fx_aastV dX5_load_133 f60 a60 (vp_in_nI (show N < 32 by omega) (by decide)) (fun h7 q7 o7 => ?_)
        rw [nI_clamp (by omega)] at q7
        have c0 := (o7 x (ne_oa c0 f60)).trans c0
        refine fx_aloadn dX5_load_134 rfl ?_
        refine fx_dup dX5_load_135 rfl ?_
        refine fx_get dX5_load_136 ffX5_36 c0 rfl ?_
        refine fx_iconst (nI 1) dX5_load_139 (by decide) ?_
        refine fx_iadd dX5_load_140 ?_
        rw [nI_add]
        refine fx_putV dX5_load_141 ffX5_36 c0 rfl rfl (Nat.le_of_ble_eq_true rfl) (fun h8 q8 o8 => ?_)
        have c0 := q8
        refine fx_aloadn dX5_load_144 rfl ?_
        refine fx_get dX5_load_145 ffX5_36 c0 rfl ?_
        refine fx_iconst (nI 1) dX5_load_148 (by decide) ?_
        refine fx_isub dX5_load_149 ?_
        refine fx_iret dX5_load_150 rfl ?_
        obtain ⟨col8, C8, X8⟩ := C6.add (by omega) H6' hnb9 f60 hfs6 q7 o7 q8 o8
        have hfa1 : ml_fa (by_ B len) len = 0 := by unfold ml_fa; rw [if_pos hf1, if_pos hft, if_pos hf7]
        refine ⟨hfa1, ?_, col8, ?_, ((((X2.s.tr X3.s).tr X4.s).tr X5.s).tr X6.s).tr X8⟩
        · rw [pk_sub (by omega)]
          rfl
        · exact C8
      · skip
        refine fx_if_ne 98 dX5_load_89 (by decide) (fun c89 => absurd (bI_0.mpr hf7) c89) (fun c89 => ?_)
        refine fx_aloadn dX5_load_92 rfl ?_
        refine fx_bipush (nI 7) dX5_load_93 (by decide) ?_
        refine fx_putV dX5_load_95 ffX5_40 c0 rfl rfl (Nat.le_of_ble_eq_true rfl) (fun h6 q6 o6 => ?_)
        obtain ⟨X6, C6⟩ := C5.setX (E' := 7) q6 o6
        have c0 := C6.1
        refine fx_aloadn dX5_load_98 rfl ?_
        refine fx_ifnullR dX5_load_99 ?_
        refine fx_aloadn dX5_load_102 rfl ?_
        refine fx_get dX5_load_103 ffX5_40 c0 rfl ?_
        refine fx_if_eq 119 dX5_load_106 (by decide) (fun c106 => absurd c106 (by decide)) (fun c106 => ?_)
        have hfa1 : ml_fa (by_ B len) len = 7 := by unfold ml_fa; rw [if_pos hf1, if_pos hft, if_neg hf7]
        refine th_iae (text := "the file is refused") rfl rfl (List.mem_of_getElem? (i := 1) rfl) dX5_load_109 dX5_load_112 dX5_load_113 dX5_load_115 dX5_load_118 (by decide) (by decide) (by omega) (by omega) ⟨by rw [hfa1]; decide, rfl, ?_⟩
        rw [hfa1]
        exact ⟨_, C6, (((X2.s.tr X3.s).tr X4.s).tr X5.s).tr X6.s⟩
    · skip
      refine fx_iloadn dX5_load_0 rfl ?_
      refine fx_if_lt 19 dX5_load_1 (by decide) (fun c1 => absurd c1 (hx0)) (fun c1 => ?_)
      refine fx_iloadn dX5_load_4 rfl ?_
      refine fx_ldc dX5_load_5 qqX5_47 ?_
      refine fx_icmp_gt 19 dX5_load_7 (by decide) (fun c7 => absurd c7 (hx1)) (fun c7 => ?_)
      refine fx_aloadn dX5_load_10 rfl ?_
      refine fx_get dX5_load_11 ffX5_36 c0 rfl ?_
      refine fx_bipush (nI 32) dX5_load_14 (by decide) ?_
      refine fx_icmp_lt 29 dX5_load_16 (by decide) (fun c16 => ?_) (fun c16 => absurd (nI_lt (show N < 32 by omega) (by decide)) c16)
      refine fx_aloadn dX5_load_29 rfl ?_
      refine fx_get dX5_load_30 ffX5_10 c0 rfl ?_
      refine fx_callSp dX5_load_33 vX2_halvesFit kkX5_55 (p_fc_halvesFit D0) rfl (by decide) (by decide) rfl (Nat.le_of_ble_eq_true rfl) ?_
      refine fx_if_eq 53 dX5_load_36 (by decide) (fun c36 => absurd c36 (bI_n0.mpr hf1)) (fun c36 => ?_)
      refine fx_newV (ci := 2) tyX3 [.null, .null, .null, .null, .int 0] dX5_load_39 rfl iiX3 tyX3_ok ccX5_16 szX3 inX3 (fun j hj => by match j, hj with | 0, _ => rfl | 1, _ => rfl | 2, _ => rfl | 3, _ => rfl | 4, _ => rfl) (by omega) (by omega) (fun a h1 ha1 e1 o1 => ?_)
      have c0a := (o1 x (ne_new c0 ha1)).trans c0
      have D0a : dr h1 dq pb0 cap0 len B := D0.kc (S := fun q => q = a) (fun q _ z => o1 q z) (ne_new d00 ha1) (fun z => D0.live pb0 (Or.inr rfl) (by rw [z]; exact ha1))
      refine fx_dup dX5_load_42 rfl ?_
      refine fx_aloadn dX5_load_43 rfl ?_
      refine fx_get dX5_load_44 ffX5_10 c0a rfl ?_
      refine fx_callC dX5_load_47 vX3_init kkX5_61 (c_fo_init e1 D0a V hnb) rfl (by decide) (by decide) (by omega) (by omega) rfl (Nat.le_of_ble_eq_true rfl) (fun r2 h2 hk2 => ?_)
      obtain ⟨rfl, pw, ps, pl, pi, fw, fs, fl, fz, fi2, w1, w2, w3, nw1, nw2, nw3, nw4, k2⟩ := hk2
      have hn0 : ∀ q, h1 q = none → h q = none := fun q hq => by
        by_cases z : q = a
        · rw [z]; exact ha1
        · rw [← o1 q z]; exact hq
      have k02 : kp (fun q => q = a) h h2 := (kp.put (kp.rf (S := fun q => q = a)) o1 (Or.inl rfl)).tr k2 (fun _ z _ => z)
      have X2 : xt (6 + N) col h (rc col (6 + N) (fun q => q = a ∨ q = pw ∨ q = ps ∨ q = pl ∨ q = pi)) h2 := xt.of clv0 k02 (by omega) (fun q hq hl => by rw [show q = a from hq, ha1] at hl; exact absurd rfl hl) _ fi2.live (fun q hq => Or.inr (by rcases hq with rfl | rfl | rfl | rfl | rfl; exact ha1; exact hn0 _ nw1; exact hn0 _ nw2; exact hn0 _ nw3; exact hn0 _ nw4))
      have H2 : fo (fun q => rc col (6 + N) (fun q => q = a ∨ q = pw ∨ q = ps ∨ q = pl ∨ q = pi) q = 6 + N) h2 a (by_ B len) nw (nI 0) := ⟨pw, ps, pl, pi, fw, fs, fl, fz, fi2.1, fi2.2.1, fi2.2.2.1, fi2.2.2.2.1, fi2.2.2.2.2, w1, w2, w3, rc_in (by simp), rc_in (by simp), rc_in (by simp), rc_in (by simp), rc_in (by simp)⟩
      have C2 := C0.ge X2 (Nat.le_refl _)
      obtain ⟨c0, cx, CD2, CF2, CE2, CS2, clv2, -⟩ := id C2
      obtain ⟨pb2, cap2, D2, cA2, cB2⟩ := CD2
      obtain ⟨d20, -⟩ := id D2
      refine fx_goto 54 dX5_load_50 (by decide) ?_
      refine fx_astoren dX5_load_54 (by decide) ?_
      refine fx_aloadn dX5_load_55 rfl ?_
      refine fx_get dX5_load_56 ffX5_10 c0 rfl ?_
      refine fx_callV dX5_load_59 vX0_clear kkX5_64 rfl rfl d20 (c_dr_clear D2) rfl (by decide) (by decide) (Nat.zero_le _) (Nat.zero_le _) rfl (Nat.le_of_ble_eq_true rfl) (fun r3 h3 hk3 => ?_)
      obtain ⟨rfl, p3', n3', D3', hp3, k3⟩ := hk3
      obtain ⟨X3, C3⟩ := C2.setD D2 cA2 cB2 D3' hp3 k3
      have c0 := C3.1
      have H3 := H2.xt X3 (by omega) (by omega)
      obtain ⟨gf3, a30⟩ := H3.at
      refine fx_aloadn dX5_load_62 rfl ?_
      refine fx_aloadn dX5_load_63 rfl ?_
      refine fx_callSp dX5_load_64 vX2_faultOf kkX5_67 (p_fc_faultOf H3 V) rfl (by decide) (by decide) rfl (Nat.le_of_ble_eq_true rfl) ?_
      refine fx_putV dX5_load_67 ffX5_40 c0 rfl rfl (Nat.le_of_ble_eq_true rfl) (fun h4 q4 o4 => ?_)
      obtain ⟨X4, C4⟩ := C3.setX (E' := (ml_ftC (by_ B len))) q4 o4
      have c0 := C4.1
      have H4 := H3.xt X4 (by omega) (by omega)
      obtain ⟨gf4, a40⟩ := H4.at
      refine fx_aloadn dX5_load_70 rfl ?_
      refine fx_ifnullR dX5_load_71 ?_
      refine fx_aloadn dX5_load_74 rfl ?_
      refine fx_get dX5_load_75 ffX5_40 c0 rfl ?_
      refine fx_if_ne 98 dX5_load_78 (by decide) (fun c78 => ?_) (fun c78 => absurd c78 (nI_ne0 (by omega) (by omega)))
      refine fx_aloadn dX5_load_98 rfl ?_
      refine fx_ifnullR dX5_load_99 ?_
      refine fx_aloadn dX5_load_102 rfl ?_
      refine fx_get dX5_load_103 ffX5_40 c0 rfl ?_
      refine fx_if_eq 119 dX5_load_106 (by decide) (fun c106 => absurd c106 (nI_ne0 (by omega) (by omega))) (fun c106 => ?_)
      have hfa1 : ml_fa (by_ B len) len = ml_ftC (by_ B len) := by unfold ml_fa; rw [if_pos hf1, if_neg hft]
      have hld : ldL (by_ B len) len L = L := if_neg (fun z => hft z.2)
      refine th_iae (text := "the file is refused") rfl rfl (List.mem_of_getElem? (i := 1) rfl) dX5_load_109 dX5_load_112 dX5_load_113 dX5_load_115 dX5_load_118 (by decide) (by decide) (by omega) (by omega) ⟨by rw [hfa1]; exact hft, rfl, ?_⟩
      rw [hfa1, hld]
      exact ⟨_, C4, (X2.s.tr X3.s).tr X4.s⟩
  · skip
    refine fx_iloadn dX5_load_0 rfl ?_
    refine fx_if_lt 19 dX5_load_1 (by decide) (fun c1 => absurd c1 (hx0)) (fun c1 => ?_)
    refine fx_iloadn dX5_load_4 rfl ?_
    refine fx_ldc dX5_load_5 qqX5_47 ?_
    refine fx_icmp_gt 19 dX5_load_7 (by decide) (fun c7 => absurd c7 (hx1)) (fun c7 => ?_)
    refine fx_aloadn dX5_load_10 rfl ?_
    refine fx_get dX5_load_11 ffX5_36 c0 rfl ?_
    refine fx_bipush (nI 32) dX5_load_14 (by decide) ?_
    refine fx_icmp_lt 29 dX5_load_16 (by decide) (fun c16 => ?_) (fun c16 => absurd (nI_lt (show N < 32 by omega) (by decide)) c16)
    refine fx_aloadn dX5_load_29 rfl ?_
    refine fx_get dX5_load_30 ffX5_10 c0 rfl ?_
    refine fx_callSp dX5_load_33 vX2_halvesFit kkX5_55 (p_fc_halvesFit D0) rfl (by decide) (by decide) rfl (Nat.le_of_ble_eq_true rfl) ?_
    refine fx_if_eq 53 dX5_load_36 (by decide) (fun c36 => ?_) (fun c36 => absurd (bI_0.mpr hf1) c36)
    refine fx_null dX5_load_53 ?_
    refine fx_astorenN dX5_load_54 (by decide) ?_
    refine fx_aloadn dX5_load_55 rfl ?_
    refine fx_get dX5_load_56 ffX5_10 c0 rfl ?_
    refine fx_callV dX5_load_59 vX0_clear kkX5_64 rfl rfl d00 (c_dr_clear D0) rfl (by decide) (by decide) (Nat.zero_le _) (Nat.zero_le _) rfl (Nat.le_of_ble_eq_true rfl) (fun r1 h1 hk1 => ?_)
    obtain ⟨rfl, p1', n1', D1', hp1, k1⟩ := hk1
    obtain ⟨X1, C1⟩ := C0.setD D0 cA0 cB0 D1' hp1 k1
    have c0 := C1.1
    refine fx_aloadn dX5_load_62 rfl ?_
    refine fx_aloadnN dX5_load_63 rfl ?_
    refine fx_callSp dX5_load_64 vX2_faultOf kkX5_67 p_fc_faultN rfl (by decide) (by decide) rfl (Nat.le_of_ble_eq_true rfl) ?_
    refine fx_putV dX5_load_67 ffX5_40 c0 rfl rfl (Nat.le_of_ble_eq_true rfl) (fun h2 q2 o2 => ?_)
    obtain ⟨X2, C2⟩ := C1.setX (E' := 1) q2 o2
    have c0 := C2.1
    refine fx_aloadnN dX5_load_70 rfl ?_
    refine fx_ifnullN 98 dX5_load_71 (by decide) ?_
    refine fx_aloadnN dX5_load_98 rfl ?_
    refine fx_ifnullN 109 dX5_load_99 (by decide) ?_
    have hfa1 : ml_fa (by_ B len) len = 1 := by unfold ml_fa; rw [if_neg hf1]
    have hld : ldL (by_ B len) len L = L := if_neg (fun z => hf1 z.1)
    refine th_iae (text := "the file is refused") rfl rfl (List.mem_of_getElem? (i := 1) rfl) dX5_load_109 dX5_load_112 dX5_load_113 dX5_load_115 dX5_load_118 (by decide) (by decide) (by omega) (by omega) ⟨by rw [hfa1]; decide, rfl, ?_⟩
    rw [hfa1, hld]
    exact ⟨_, C2, X1.s.tr X2.s⟩
