/-! FontDesk: a new one -/
theorem xt.obj {col : Nat → Nat} {h h' : fx_H} {x : Nat} {v : fx_E} (clv : ∀ q, col q ≠ 0 → h q ≠ none) (cx : col x = 1) (e : h' x = some v) (o : ∀ y, y ≠ x → h' y = h y) : xt 1 col h (rc col 1 (fun q => q = x)) h' ∧ rc col 1 (fun q => q = x) x = 1 :=
  ⟨xt.of (S := fun q => q = x) clv (fun y _ hy => o y hy) (by decide) (fun q hq _ => by rw [show q = x from hq]; exact cx) _ (fun q hq => by rw [show q = x from hq, e]; exact fun z => by cases z) (fun q hq => Or.inl (by rw [show q = x from hq]; exact cx)), rc_in (R := fun q => q = x) rfl⟩
theorem c_cd_init {g : fx_G} {h : fx_H} {x : Nat} (ex : h x = some (.inr (4, [.null, .null, .null, .null, .int 0, .int 0]))) : fx_Met g mX5_init 2 60 [.ref x] h 14 4628 (fun r h' => r = none ∧ ∃ col' dq fq eq sq, cd col' h' x dq fq eq sq (fun _ => ((fun _ => 0), 0, 0) : Nat → (Nat → Nat) × Nat × Int32) 0 (fun _ => 0) 0 0 [] 0 0 ∧ xs (fun q => if q = x then 1 else 0) h col' h') := by
  have cx : (fun q => if q = x then 1 else 0) x = 1 := if_pos rfl
  have clv : ∀ q, (fun q => if q = x then 1 else 0) q ≠ 0 → h q ≠ none := fun q hq => by
    by_cases e : q = x
    · rw [e, ex]; exact fun z => by cases z
    · exact absurd (if_neg e) hq
  have nk : ∀ {c : Nat} (k : Nat), k < 0 → c ≠ 6 + k := fun k hk => absurd hk (Nat.not_lt_zero _)
  refine fx_Met.of rfl (Nat.le_of_ble_eq_true rfl) ?_
  refine fx_aloadn dX5_init_0 rfl ?_
  refine fx_objInit dX5_init_1 ooX5 oo_i oo_c (by decide) (by decide) (Nat.le_of_ble_eq_true rfl) ?_
  refine fx_aloadn dX5_init_4 rfl ?_
  refine fx_newV (ci := 0) tyX0 [.null, .int 0] dX5_init_5 rfl iiX0 tyX0_ok ccX5_7 szX0 inX0 (fun j hj => by match j, hj with | 0, _ => rfl | 1, _ => rfl) (by omega) (by omega) (fun dq g1 hq1 e1 o1 => ?_)
  refine fx_dup dX5_init_8 rfl ?_
  refine fx_callCN (host := "FontDesk") dX5_init_9 vX0_init (fun s k => k.2.2.1) (c_dr_init e1) rfl (by decide) (by decide) (by omega) (by omega) rfl (Nat.le_of_ble_eq_true rfl) (fun r1 h1 hk1 => ?_)
  obtain ⟨rfl, pb, npb, D1, kk1⟩ := hk1
  have hn1 : ∀ z, g1 z = none → h z = none := fun z hz => by
    by_cases e : z = dq
    · rw [e]; exact hq1
    · rw [← o1 z e]; exact hz
  have k01 : kp (fun z => z = dq) h h1 := (kp.put (kp.rf (S := fun z => z = dq)) o1 (Or.inl rfl)).tr kk1 (fun _ z _ => z)
  have X1 : xt 2 (fun q => if q = x then 1 else 0) h (rc (fun q => if q = x then 1 else 0) 2 (fun z => z = dq ∨ z = pb)) h1 := xt.of clv k01 (by decide) (fun z hz hl => by rw [show z = dq from hz, hq1] at hl; exact absurd rfl hl) _ (D1.live) (fun z hz => Or.inr (by rcases hz with rfl | rfl; exact hq1; exact hn1 _ npb))
  obtain ⟨ex, cx⟩ := X1.x ex cx (by decide)
  have clv := X1.2.1
  have Z1 := xs.rf.tr X1.s
  have CD1 : cdD (rc (fun q => if q = x then 1 else 0) 2 (fun z => z = dq ∨ z = pb)) h1 dq (fun _ => 0) 0 := ⟨pb, 64, D1, rc_in (Or.inl rfl), rc_in (Or.inr rfl)⟩
  refine fx_putFV dX5_init_12 ffX5_10 rfl rfl ex rfl rfl (Nat.le_of_ble_eq_true rfl) (fun h2 ex2 o2 => ?_)
  obtain ⟨X2, cx2⟩ := xt.obj clv cx ex2 o2
  have clv := X2.2.1
  have Z2 := Z1.tr X2.s
  have cx := cx2
  have ex := ex2
  refine fx_aloadn dX5_init_15 rfl ?_
  refine fx_bipush (nI 32) dX5_init_16 (by decide) ?_
  refine fx_newq 32 dX5_init_18 ccX5_16 (by decide) (by decide) (by decide) (by omega) (by omega) (fun fq h3 hq3 e3 o3 => ?_)
  have X3 : xt 3 (rc (rc (fun q => if q = x then 1 else 0) 2 (fun z => z = dq ∨ z = pb)) 1 (fun q => q = x)) h2 (rc (rc (rc (fun q => if q = x then 1 else 0) 2 (fun z => z = dq ∨ z = pb)) 1 (fun q => q = x)) 3 (fun z => z = fq)) h3 := xt.of (S := fun z => z = fq) clv (fun z _ hz => o3 z hz) (by decide) (fun z hz hl => by rw [show z = fq from hz, hq3] at hl; exact absurd rfl hl) _ (fun z hz => by rw [show z = fq from hz, e3]; exact fun y => by cases y) (fun z hz => Or.inr (by rw [show z = fq from hz]; exact hq3))
  obtain ⟨ex, cx⟩ := X3.x ex cx (by decide)
  have clv := X3.2.1
  have Z3 := Z2.tr X3.s
  have CF3 : cdF (rc (rc (rc (fun q => if q = x then 1 else 0) 2 (fun z => z = dq ∨ z = pb)) 1 (fun q => q = x)) 3 (fun z => z = fq)) h3 fq (fun _ => ((fun _ => 0), 0, 0) : Nat → (Nat → Nat) × Nat × Int32) 0 := ⟨_, e3, rc_in (R := fun z => z = fq) rfl, fun k hk => absurd hk (Nat.not_lt_zero _)⟩
  refine fx_putFV dX5_init_21 ffX5_18 rfl rfl ex rfl rfl (Nat.le_of_ble_eq_true rfl) (fun h4 ex4 o4 => ?_)
  obtain ⟨X4, cx4⟩ := xt.obj clv cx ex4 o4
  have clv := X4.2.1
  have Z4 := Z3.tr X4.s
  have cx := cx4
  have ex := ex4
  refine fx_aloadn dX5_init_24 rfl ?_
  refine fx_newV (ci := 1) tyX1 [.null, .null, .int 0, .null, .null, .null] dX5_init_25 rfl iiX1 tyX1_ok ccX5_22 szX1 inX1 (fun j hj => by match j, hj with | 0, _ => rfl | 1, _ => rfl | 2, _ => rfl | 3, _ => rfl | 4, _ => rfl | 5, _ => rfl) (by omega) (by omega) (fun eq g5 hq5 e5 o5 => ?_)
  refine fx_dup dX5_init_28 rfl ?_
  refine fx_callCN (host := "FontDesk") dX5_init_29 vX1_init (fun s k => k.2.2.2.1) (c_en_init e5) rfl (by decide) (by decide) (by omega) (by omega) rfl (Nat.le_of_ble_eq_true rfl) (fun r5 h5 hk5 => ?_)
  obtain ⟨rfl, pr, pg, pt, pa, pl, fr, fg, ft, fa, fl, En, Ea, ⟨n1, n2, n3, n4, n5⟩, kk5⟩ := hk5
  have hn5 : ∀ z, g5 z = none → h4 z = none := fun z hz => by
    by_cases e : z = eq
    · rw [e]; exact hq5
    · rw [← o5 z e]; exact hz
  have k05 : kp (fun z => z = eq) h4 h5 := (kp.put (kp.rf (S := fun z => z = eq)) o5 (Or.inl rfl)).tr kk5 (fun _ z _ => z)
  have X5 : xt 4 (rc (rc (rc (rc (fun q => if q = x then 1 else 0) 2 (fun z => z = dq ∨ z = pb)) 1 (fun q => q = x)) 3 (fun z => z = fq)) 1 (fun q => q = x)) h4 (rc (rc (rc (rc (rc (fun q => if q = x then 1 else 0) 2 (fun z => z = dq ∨ z = pb)) 1 (fun q => q = x)) 3 (fun z => z = fq)) 1 (fun q => q = x)) 4 (eS eq pr pg pt pa pl)) h5 := xt.of clv k05 (by decide) (fun z hz hl => by rw [show z = eq from hz, hq5] at hl; exact absurd rfl hl) _ (En.live) (fun z hz => Or.inr (by rcases hz with rfl | rfl | rfl | rfl | rfl | rfl; exact hq5; exact hn5 _ n1; exact hn5 _ n2; exact hn5 _ n3; exact hn5 _ n4; exact hn5 _ n5))
  obtain ⟨ex, cx⟩ := X5.x ex cx (by decide)
  have clv := X5.2.1
  have Z5 := Z4.tr X5.s
  have CE5 : cdE (rc (rc (rc (rc (rc (fun q => if q = x then 1 else 0) 2 (fun z => z = dq ∨ z = pb)) 1 (fun q => q = x)) 3 (fun z => z = fq)) 1 (fun q => q = x)) 4 (eS eq pr pg pt pa pl)) h5 eq 0 := ⟨pr, pg, pt, pa, pl, fr, fg, ft, fa, fl, 0, En, Ea, fun q hq => rc_in hq⟩
  refine fx_putFV dX5_init_32 ffX5_25 rfl rfl ex rfl rfl (Nat.le_of_ble_eq_true rfl) (fun h6 ex6 o6 => ?_)
  obtain ⟨X6, cx6⟩ := xt.obj clv cx ex6 o6
  have clv := X6.2.1
  have Z6 := Z5.tr X6.s
  have cx := cx6
  have ex := ex6
  refine fx_aloadn dX5_init_35 rfl ?_
  refine fx_newV (ci := 3) tyX4 [.null, .null, .int 0, .long 0, .int 0, .int 0, .null, .null, .int 0, .int 0] dX5_init_36 rfl iiX4 tyX4_ok ccX5_29 szX4 inX4 (fun j hj => by match j, hj with | 0, _ => rfl | 1, _ => rfl | 2, _ => rfl | 3, _ => rfl | 4, _ => rfl | 5, _ => rfl | 6, _ => rfl | 7, _ => rfl | 8, _ => rfl | 9, _ => rfl) (by omega) (by omega) (fun sq g7 hq7 e7 o7 => ?_)
  refine fx_dup dX5_init_39 rfl ?_
  refine fx_callCN (host := "FontDesk") dX5_init_40 vX4_init (fun s k => k.2.2.2.2.1) (c_se_init e7) rfl (by decide) (by decide) (by omega) (by omega) rfl (Nat.le_of_ble_eq_true rfl) (fun r7 h7 hk7 => ?_)
  obtain ⟨rfl, pik, pic, pak, pac, Sw, ⟨n1, n2, n3, n4⟩, kk7⟩ := hk7
  have hn7 : ∀ z, g7 z = none → h6 z = none := fun z hz => by
    by_cases e : z = sq
    · rw [e]; exact hq7
    · rw [← o7 z e]; exact hz
  have k07 : kp (fun z => z = sq) h6 h7 := (kp.put (kp.rf (S := fun z => z = sq)) o7 (Or.inl rfl)).tr kk7 (fun _ z _ => z)
  have X7 : xt 5 (rc (rc (rc (rc (rc (rc (fun q => if q = x then 1 else 0) 2 (fun z => z = dq ∨ z = pb)) 1 (fun q => q = x)) 3 (fun z => z = fq)) 1 (fun q => q = x)) 4 (eS eq pr pg pt pa pl)) 1 (fun q => q = x)) h6 (rc (rc (rc (rc (rc (rc (rc (fun q => if q = x then 1 else 0) 2 (fun z => z = dq ∨ z = pb)) 1 (fun q => q = x)) 3 (fun z => z = fq)) 1 (fun q => q = x)) 4 (eS eq pr pg pt pa pl)) 1 (fun q => q = x)) 5 (sS sq pik pic pak pac)) h7 := xt.of clv k07 (by decide) (fun z hz hl => by rw [show z = sq from hz, hq7] at hl; exact absurd rfl hl) _ (Sw.live) (fun z hz => Or.inr (by rcases hz with rfl | rfl | rfl | rfl | rfl; exact hq7; exact hn7 _ n1; exact hn7 _ n2; exact hn7 _ n3; exact hn7 _ n4))
  obtain ⟨ex, cx⟩ := X7.x ex cx (by decide)
  have clv := X7.2.1
  have Z7 := Z6.tr X7.s
  have CS7 : cdS (rc (rc (rc (rc (rc (rc (rc (fun q => if q = x then 1 else 0) 2 (fun z => z = dq ∨ z = pb)) 1 (fun q => q = x)) 3 (fun z => z = fq)) 1 (fun q => q = x)) 4 (eS eq pr pg pt pa pl)) 1 (fun q => q = x)) 5 (sS sq pik pic pak pac)) h7 sq [] 0 := ⟨pik, pic, pak, pac, _, _, _, Sw, fun q hq => rc_in hq⟩
  refine fx_putFV dX5_init_43 ffX5_32 rfl rfl ex rfl rfl (Nat.le_of_ble_eq_true rfl) (fun h8 ex8 o8 => ?_)
  obtain ⟨X8, cx8⟩ := xt.obj clv cx ex8 o8
  have clv := X8.2.1
  have Z8 := Z7.tr X8.s
  have cx := cx8
  have ex := ex8
  refine fx_aloadn dX5_init_46 rfl ?_
  refine fx_iconst (nI 0) dX5_init_47 (by decide) ?_
  refine fx_putV dX5_init_48 ffX5_36 ex rfl rfl (Nat.le_of_ble_eq_true rfl) (fun h9 ex9 o9 => ?_)
  obtain ⟨X9, cx9⟩ := xt.obj clv cx ex9 o9
  have clv := X9.2.1
  have Z9 := Z8.tr X9.s
  have cx := cx9
  have ex := ex9
  refine fx_aloadn dX5_init_51 rfl ?_
  refine fx_iconst (nI 0) dX5_init_52 (by decide) ?_
  refine fx_putV dX5_init_53 ffX5_40 ex rfl rfl (Nat.le_of_ble_eq_true rfl) (fun h10 ex10 o10 => ?_)
  obtain ⟨X10, cx10⟩ := xt.obj clv cx ex10 o10
  have clv := X10.2.1
  have Z10 := Z9.tr X10.s
  have cx := cx10
  have ex := ex10
  refine fx_vret dX5_init_56 rfl ?_
  exact ⟨rfl, _, dq, fq, eq, sq, ⟨ex, cx, ((((((((CD1.xt X2 (by decide)).xt X3 (by decide)).xt X4 (by decide)).xt X5 (by decide)).xt X6 (by decide)).xt X7 (by decide)).xt X8 (by decide)).xt X9 (by decide)).xt X10 (by decide), ((((((CF3.xt X4 (by decide) nk).xt X5 (by decide) nk).xt X6 (by decide) nk).xt X7 (by decide) nk).xt X8 (by decide) nk).xt X9 (by decide) nk).xt X10 (by decide) nk, ((((CE5.xt X6 (by decide)).xt X7 (by decide)).xt X8 (by decide)).xt X9 (by decide)).xt X10 (by decide), ((CS7.xt X8 (by decide)).xt X9 (by decide)).xt X10 (by decide), clv, Nat.zero_le _, Nat.zero_le _, Nat.zero_le _, fun k hk => absurd hk (Nat.not_lt_zero _)⟩, Z10⟩
