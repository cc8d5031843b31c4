/-! The law: call by call to its end, and its beginning -/
theorem w_loop {g : fx_G} (hLs : g.2.2.2.2.1 ≤ 2048) : ∀ (n c : Nat) (h : fx_H) (x dq fq eq sq m pb pf pz pt pp ph pk pc po N len E L : Nat) (col : Nat → Nat) (F : Nat → (Nat → Nat) × Nat × Int32) (B : Nat → Nat) (I : List sg) (T : Int64) (th : Int32) (cu su : Nat) (lv : List (Nat × Value)), li h x dq fq eq sq m pb pf pz pt pp ph pk pc po col F N B len E I T L th → 4 * c + 4 * n ≤ g.2.2.2.2.1 → g.2.2.2.2.1 < 4 * c + 4 * n + 4 → ro F N + len + 8 * n ≤ 4096 → 10 * n ≤ cu → 8208 * n + pot L ≤ su → fx_le [(0, .ref g.2.2.2.1), (1, .ref x), (2, .ref m), (3, .ref po), (4, .int (nI (4 * c)))] lv → fx_Y g mL_law 12 268 (fun r _ => r = some (.int (nI 1))) (fun _ _ => False) 23 lv [] h cu su := by
  intro n
  induction n with
  | zero =>
    intro c h x dq fq eq sq m pb pf pz pt pp ph pk pc po N len E L col F B I T th cu su lv HI q1 q2 hro hcu hsu hlv
    refine fx_sub [(0, .ref g.2.2.2.1), (1, .ref x), (2, .ref m), (3, .ref po), (4, .int (nI (4 * c)))] hlv ?_
    refine fx_iload dL_law_23 rfl ?_
    refine fx_aloadn dL_law_25 rfl ?_
    refine fx_slen rfl dL_law_26 ?_
    refine fx_iconst (nI 4) dL_law_27 (by decide) ?_
    refine fx_isub dL_law_28 ?_
    skip
    have hg : nI g.2.2.2.2.1 - nI 4 < nI (4 * c) := by
      by_cases q : 4 ≤ g.2.2.2.2.1
      · rw [pk_sub q]
        exact nI_lt (by omega) (by omega)
      · have h1 := pk_sneg (a := g.2.2.2.2.1) (b := 4) (by decide) (by omega)
        have h2 : (0 : Int32) ≤ nI (4 * c) := nI_pos' (by omega)
        exact Int32.lt_of_lt_of_le h1 h2
    refine fx_icmp_gt 512 dL_law_29 (by decide) (fun _ => ?_) (fun z => absurd hg z)
    refine fx_iconst (nI 1) dL_law_512 (by decide) ?_
    exact fx_zret dL_law_513 rfl rfl rfl
  | succ n ih =>
    intro c h x dq fq eq sq m pb pf pz pt pp ph pk pc po N len E L col F B I T th cu su lv HI q1 q2 hro hcu hsu hlv
    refine fx_sub [(0, .ref g.2.2.2.1), (1, .ref x), (2, .ref m), (3, .ref po), (4, .int (nI (4 * c)))] hlv (fx_less hcu hsu ?_)
    refine fx_iload dL_law_23 rfl ?_
    refine fx_aloadn dL_law_25 rfl ?_
    refine fx_slen rfl dL_law_26 ?_
    refine fx_iconst (nI 4) dL_law_27 (by decide) ?_
    refine fx_isub dL_law_28 ?_
    skip
    rw [pk_sub (show 4 ≤ g.2.2.2.2.1 by omega)]
    refine fx_icn_gt 512 dL_law_29 (by decide) (by omega) (by omega) (fun z => absurd z (by omega)) (fun _ => ?_)
    refine fx_aloadn dL_law_32 rfl ?_
    refine fx_iload dL_law_33 rfl ?_
    refine fx_sld rfl dL_law_35 (vp_in_nI (show 4 * c < _ by omega) (by omega)) ?_
    refine fx_bipush (nI 15) dL_law_36 (by decide) ?_
    refine fx_iand dL_law_38 ?_
    obtain ⟨j, hj, ej⟩ := pk_andE (g.2.2.2.2.2 (nI (4 * c)).toNatClampNeg) (m := nI 15) 4 (by decide)
    rw [ej]
    have FIN : ∀ (h' : fx_H) (lv : List (Nat × Value)) (cu su : Nat) (col' : Nat → Nat) (F' : Nat → (Nat → Nat) × Nat × Int32) (N' : Nat) (B' : Nat → Nat) (len' E' : Nat) (I' : List sg) (T' : Int64) (L' : Nat) (th' : Int32), li h' x dq fq eq sq m pb pf pz pt pp ph pk pc po col' F' N' B' len' E' I' T' L' th' → ro F' N' + len' + 8 * n ≤ 4096 → 10 * n ≤ cu → 8208 * n + pot L' ≤ su → fx_le [(0, .ref g.2.2.2.1), (1, .ref x), (2, .ref m), (3, .ref po), (4, .int (nI (4 * c)))] lv → fx_Y g mL_law 12 268 (fun r _ => r = some (.int (nI 1))) (fun _ _ => False) 506 lv [] h' cu su := by
      intro h' lv cu su col' F' N' B' len' E' I' T' L' th' HI' hro' hcu' hsu' hlv'
      refine fx_sub [(0, .ref g.2.2.2.1), (1, .ref x), (2, .ref m), (3, .ref po), (4, .int (nI (4 * c)))] hlv' ?_
      refine fx_iinc (nI 4) dL_law_506 rfl (by decide) (by decide) ?_
      refine fx_goto 23 dL_law_509 (by decide) ?_
      rw [nI_add (4 * c) 4]
      exact ih (c + 1) h' x dq fq eq sq m pb pf pz pt pp ph pk pc po N' len' E' L' col' F' B' I' T' th' _ _ _ HI' (by omega) (by omega) hro' hcu' hsu' ⟨rfl, rfl, rfl, rfl, rfl, trivial⟩
    match j, hj with

    | 0, _ =>
      refine fx_tswIn 49 88 dL_law_39 (by decide) (by decide) rfl (by decide) ?_
      exact w_put HI (by omega) hLs hro FIN
    | 1, _ =>
      refine fx_tswIn 118 157 dL_law_39 (by decide) (by decide) rfl (by decide) ?_
      exact w_load HI (by omega) hLs hro FIN
    | 2, _ =>
      refine fx_tswIn 174 213 dL_law_39 (by decide) (by decide) rfl (by decide) ?_
      exact w_fault HI (by omega) hLs hro FIN
    | 3, _ =>
      refine fx_tswIn 187 226 dL_law_39 (by decide) (by decide) rfl (by decide) ?_
      exact w_metric HI (by omega) hLs hro FIN
    | 4, _ =>
      refine fx_tswIn 267 306 dL_law_39 (by decide) (by decide) rfl (by decide) ?_
      exact w_parameter HI (by omega) hLs hro FIN
    | 5, _ =>
      refine fx_tswIn 335 374 dL_law_39 (by decide) (by decide) rfl (by decide) ?_
      exact w_set HI (by omega) hLs hro FIN
    | 6, _ =>
      refine fx_tswIn 391 430 dL_law_39 (by decide) (by decide) rfl (by decide) ?_
      exact w_item HI (by omega) hLs hro FIN
    | 7, _ =>
      refine fx_tswIn 428 467 dL_law_39 (by decide) (by decide) rfl (by decide) ?_
      exact w_width HI (by omega) hLs hro FIN
    | 8, _ =>
      refine fx_tswIn 442 481 dL_law_39 (by decide) (by decide) rfl (by decide) ?_
      exact w_count HI (by omega) hLs hro FIN
    | j + 9, hj =>
      refine fx_tswOut 506 dL_law_39 (Or.inr ?_) (by decide) ?_
      · rw [nI_toInt (by omega)]; omega
      · exact FIN _ _ _ _ _ _ _ _ _ _ _ _ _ _ HI (by omega) (by omega) (by omega) ⟨rfl, rfl, rfl, rfl, rfl, trivial⟩
theorem w_law {g : fx_G} {h : fx_H} (hh : ∀ q, h q = none) (hLs : g.2.2.2.2.1 ≤ 2048) : fx_Y g mL_law 12 268 (fun r _ => r = some (.int (nI 1))) (fun _ _ => False) 0 [(0, .ref g.2.2.2.1)] [] h 601000 7293034 := by
  refine fx_newV (ci := 4) tyX5 [.null, .null, .null, .null, .int 0, .int 0] dL_law_0 rfl iiX5 tyX5_ok ccL_8 szX5 inX5 (fun j hj => by match j, hj with | 0, _ => rfl | 1, _ => rfl | 2, _ => rfl | 3, _ => rfl | 4, _ => rfl | 5, _ => rfl) (by omega) (by omega) (fun x h1 hq1 e1 o1 => ?_)
  refine fx_dup dL_law_3 rfl ?_
  refine fx_callC dL_law_4 vX5_init kkL_30 (c_cd_init e1) rfl (by decide) (by decide) (by omega) (by omega) rfl (Nat.le_of_ble_eq_true rfl) (fun r2 h2 hk2 => ?_)
  obtain ⟨rfl, col, dq, fq, eq, sq, C2, X2⟩ := hk2
  refine fx_astoren dL_law_7 (by decide) ?_
  refine fx_newV (ci := 5) tyX6 [.int 0, .null, .int 0, .int 0, .null, .null, .int 0, .int 0, .null, .null, .null, .int 0, .null, .null, .long 0] dL_law_8 rfl iiX6 tyX6_ok ccL_31 szX6 inX6 (fun j hj => by match j, hj with | 0, _ => rfl | 1, _ => rfl | 2, _ => rfl | 3, _ => rfl | 4, _ => rfl | 5, _ => rfl | 6, _ => rfl | 7, _ => rfl | 8, _ => rfl | 9, _ => rfl | 10, _ => rfl | 11, _ => rfl | 12, _ => rfl | 13, _ => rfl | 14, _ => rfl) (by omega) (by omega) (fun m h3 hq3 e3 o3 => ?_)
  refine fx_dup dL_law_11 rfl ?_
  refine fx_callC dL_law_12 vX6_init kkL_33 (c_rf_init e3) rfl (by decide) (by decide) (by omega) (by omega) rfl (Nat.le_of_ble_eq_true rfl) (fun r4 h4 hk4 => ?_)
  obtain ⟨rfl, pb, pf, pz, pt, pp, ph, pk, pc, R4, ⟨n1, n2, n3, n4, n5, n6, n7, n8⟩, k4⟩ := hk4
  refine fx_astoren dL_law_15 (by decide) ?_
  refine fx_iconst (nI 1) dL_law_16 (by decide) ?_
  refine fx_newL 1 dL_law_17 (by decide) (by decide) (by decide) (by omega) (by omega) (fun po h5 hq5 e5 o5 => ?_)
  refine fx_astoren dL_law_19 (by decide) ?_
  refine fx_iconst (nI 0) dL_law_20 (by decide) ?_
  refine fx_istore dL_law_21 (by decide) ?_
  have cl := C2.2.2.2.2.2.2.1
  have hm0 : col m = 0 := Classical.byContradiction fun z => cl m z hq3
  have c3 : ∀ q, h3 q = none → col q = 0 := fun q hq => Classical.byContradiction fun z => cl q z (by
    by_cases e : q = m
    · rw [e]; exact hq3
    · rw [← o3 q e]; exact hq)
  have k3 : ∀ q, col q ≠ 0 → h3 q = h2 q := fun q hq => o3 q (fun e => hq (by rw [e]; exact hm0))
  have k24 : ∀ q, col q ≠ 0 → h4 q = h2 q := fun q hq => (k4 q (by rw [k3 q hq]; exact cl q hq) (fun e => hq (by rw [show q = m from e]; exact hm0))).trans (k3 q hq)
  have hpo : col po = 0 := Classical.byContradiction fun z => cl po z (by rw [← k24 po z]; exact hq5)
  have k25 : ∀ q, col q ≠ 0 → h5 q = h2 q := fun q hq => (o5 q (fun e => hq (by rw [e]; exact hpo))).trans (k24 q hq)
  have RS4 : rs h4 m pb pf pz pt pp ph pk pc (fun _ => ((fun _ => 0), 0, 0) : Nat → (Nat → Nat) × Nat × Int32) 0 (fun _ => 0) 0 0 [] 0 0 := ⟨_, _, _, _, _, _, _, _, _, R4, ⟨fun k hk => by
    rw [Nat.le_zero.mp hk]; rfl, fun k hk => absurd hk (Nat.not_lt_zero _), fun i hi => absurd hi (Nat.not_lt_zero _)⟩, sl.nil, Nat.zero_le _, Nat.zero_le _, Nat.zero_le _, fun k hk => absurd hk (Nat.not_lt_zero _)⟩
  have RS5 : rs h5 m pb pf pz pt pp ph pk pc (fun _ => ((fun _ => 0), 0, 0) : Nat → (Nat → Nat) × Nat × Int32) 0 (fun _ => 0) 0 0 [] 0 0 := RS4.kept (fun q hq => o5 q (fun e => RS4.live q hq (by rw [e]; exact hq5)))
  have hr : ∀ q, rC m pb pf pz pt pp ph pk pc q → col q = 0 := by
    intro q hq
    rcases hq with rfl | rfl | rfl | rfl | rfl | rfl | rfl | rfl | rfl
    · exact hm0
    · exact c3 _ n1
    · exact c3 _ n2
    · exact c3 _ n3
    · exact c3 _ n4
    · exact c3 _ n5
    · exact c3 _ n6
    · exact c3 _ n7
    · exact c3 _ n8
  refine w_loop hLs (g.2.2.2.2.1 / 4) 0 h5 x dq fq eq sq m pb pf pz pt pp ph pk pc po 0 0 0 0 col (fun _ => ((fun _ => 0), 0, 0) : Nat → (Nat → Nat) × Nat × Int32) (fun _ => 0) [] 0 0 _ _ _ ⟨C2.same k25, RS5, hr, ⟨_, e5⟩, hpo⟩ (by omega) (by omega) ?_ (by omega) ?_ ⟨rfl, rfl, rfl, rfl, rfl, trivial⟩
  · show 0 + 0 + 8 * (g.2.2.2.2.1 / 4) ≤ 4096
    omega
  · have : pot 0 = 592128 := rfl
    omega
