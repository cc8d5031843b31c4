/-! The law: both objects, call by call -/
def mL_law : fx_M := (yL_law, cL_law, 7, some .boolean)
theorem rs.live {h : fx_H} {m pb pf pz pt pp ph pk pc N len E : Nat} {F : Nat → (Nat → Nat) × Nat × Int32} {B : Nat → Nat} {I : List sg} {T : Int64} {th : Int32} (H : rs h m pb pf pz pt pp ph pk pc F N B len E I T th) : ∀ q, rC m pb pf pz pt pp ph pk pc q → h q ≠ none := by
  obtain ⟨fb, ff, fz, ft, fp, fh, fk, fc, bs, E0, -⟩ := H
  obtain ⟨e0, ⟨e1, e2, e3, e4, e5, e6, e7, e8⟩, -⟩ := E0
  intro q hq
  rcases hq with rfl | rfl | rfl | rfl | rfl | rfl | rfl | rfl | rfl
  · rw [e0]; exact fun z => by cases z
  · rw [e1]; exact fun z => by cases z
  · rw [e2]; exact fun z => by cases z
  · rw [e3]; exact fun z => by cases z
  · rw [e4]; exact fun z => by cases z
  · rw [e5]; exact fun z => by cases z
  · rw [e6]; exact fun z => by cases z
  · rw [e7]; exact fun z => by cases z
  · rw [e8]; exact fun z => by cases z
theorem rs.npo {h : fx_H} {m pb pf pz pt pp ph pk pc N len E po : Nat} {F : Nat → (Nat → Nat) × Nat × Int32} {B : Nat → Nat} {I : List sg} {T : Int64} {th : Int32} {y : vp_A} (H : rs h m pb pf pz pt pp ph pk pc F N B len E I T th) (hp : h po = some (.inl (3, y))) : ¬ rC m pb pf pz pt pp ph pk pc po := by
  obtain ⟨fb, ff, fz, ft, fp, fh, fk, fc, bs, E0, -⟩ := H
  obtain ⟨e0, ⟨e1, e2, e3, e4, e5, e6, e7, e8⟩, -⟩ := E0
  intro hq
  rcases hq with rfl | rfl | rfl | rfl | rfl | rfl | rfl | rfl | rfl
  · rw [e0] at hp; cases hp
  · rw [e1] at hp; cases hp
  · rw [e2] at hp; cases hp
  · rw [e3] at hp; cases hp
  · rw [e4] at hp; cases hp
  · rw [e5] at hp; cases hp
  · rw [e6] at hp; cases hp
  · rw [e7] at hp; cases hp
  · rw [e8] at hp; cases hp
def li (h : fx_H) (x dq fq eq sq m pb pf pz pt pp ph pk pc po : Nat) (col : Nat → Nat) (F : Nat → (Nat → Nat) × Nat × Int32) (N : Nat) (B : Nat → Nat) (len E : Nat) (I : List sg) (T : Int64) (L : Nat) (th : Int32) : Prop := cd col h x dq fq eq sq F N B len E I T L ∧ rs h m pb pf pz pt pp ph pk pc F N B len E I T th ∧ (∀ q, rC m pb pf pz pt pp ph pk pc q → col q = 0) ∧ (∃ f0 : Nat → Int64, h po = some (.inl (3, 1, .inr (.inl f0)))) ∧ col po = 0
/-- behind a call on the class -/
theorem li.c {h h1 : fx_H} {x dq fq eq sq m pb pf pz pt pp ph pk pc po N len E L : Nat} {col col1 : Nat → Nat} {F : Nat → (Nat → Nat) × Nat × Int32} {B : Nat → Nat} {I : List sg} {T : Int64} {th : Int32} (H : li h x dq fq eq sq m pb pf pz pt pp ph pk pc po col F N B len E I T L th) (X : xo po col h col1 h1) : rs h1 m pb pf pz pt pp ph pk pc F N B len E I T th ∧ (∀ q, rC m pb pf pz pt pp ph pk pc q → col1 q = 0) ∧ col1 po = 0 := by
  obtain ⟨C, R, hr, ⟨f0, hp⟩, hc⟩ := H
  have hlv := R.live
  have hnp := R.npo hp
  refine ⟨R.kept (fun q hq => X.2 q (hlv q hq) (fun z => ?_)), fun q hq => ?_, ?_⟩
  · rcases z with z | z
    · exact z (hr q hq)
    · exact hnp (by rw [← z]; exact hq)
  · refine Classical.byContradiction fun z => ?_
    rcases X.1 q z with y | y
    · exact y (hr q hq)
    · exact hlv q hq y
  · refine Classical.byContradiction fun z => ?_
    rcases X.1 po z with y | y
    · exact y hc
    · rw [hp] at y; cases y
/-- .. and behind the reference's -/
theorem li.r {h1 h2 : fx_H} {x dq fq eq sq m pb pf pz pt pp ph pk pc po N len E L : Nat} {col1 : Nat → Nat} {F : Nat → (Nat → Nat) × Nat × Int32} {B : Nat → Nat} {I : List sg} {T : Int64} {th : Int32} {f1 : Nat → Int64} (C : cd col1 h1 x dq fq eq sq F N B len E I T L) (hr : ∀ q, rC m pb pf pz pt pp ph pk pc q → col1 q = 0) (hc : col1 po = 0) (hp : h1 po = some (.inl (3, 1, .inr (.inl f1)))) (hnp : ¬ rC m pb pf pz pt pp ph pk pc po) (R : rs h2 m pb pf pz pt pp ph pk pc F N B len E I T th) (k : kp (rC m pb pf pz pt pp ph pk pc) h1 h2) : li h2 x dq fq eq sq m pb pf pz pt pp ph pk pc po col1 F N B len E I T L th ∧ h2 po = some (.inl (3, 1, .inr (.inl f1))) := by
  have hp2 : h2 po = some (.inl (3, 1, .inr (.inl f1))) := (k po (by rw [hp]; exact fun z => by cases z) hnp).trans hp
  exact ⟨⟨C.same (fun q hq => k q (C.2.2.2.2.2.2.1 q hq) (fun z => hq (hr q z))), R, hr, ⟨f1, hp2⟩, hc⟩, hp2⟩
theorem lcmp0 (x : Int64) : lg_cmp x x = 0 := by
  unfold lg_cmp
  simp
theorem w_put {g : fx_G} {h : fx_H} {x dq fq eq sq m pb pf pz pt pp ph pk pc po N len E L c n : Nat} {col : Nat → Nat} {F : Nat → (Nat → Nat) × Nat × Int32} {B : Nat → Nat} {I : List sg} {T : Int64} {th : Int32} (HI : li h x dq fq eq sq m pb pf pz pt pp ph pk pc po col F N B len E I T L th) (hc4 : 4 * c + 4 ≤ g.2.2.2.2.1) (hLs : g.2.2.2.2.1 ≤ 2048) (hro : ro F N + len + 8 * (n + 1) ≤ 4096) (FIN : ∀ (h' : fx_H) (lv : List (Nat × Value)) (cu su : Nat) (col' : Nat → Nat) (F' : Nat → (Nat → Nat) × Nat × Int32) (N' : Nat) (B' : Nat → Nat) (len' E' : Nat) (I' : List sg) (T' : Int64) (L' : Nat) (th' : Int32), li h' x dq fq eq sq m pb pf pz pt pp ph pk pc po col' F' N' B' len' E' I' T' L' th' → ro F' N' + len' + 8 * n ≤ 4096 → 10 * n ≤ cu → 8208 * n + pot L' ≤ su → fx_le [(0, .ref g.2.2.2.1), (1, .ref x), (2, .ref m), (3, .ref po), (4, .int (nI (4 * c)))] lv → fx_Y g mL_law 12 268 (fun r _ => r = some (.int (nI 1))) (fun _ _ => False) 506 lv [] h' cu su) : fx_Y g mL_law 12 268 (fun r _ => r = some (.int (nI 1))) (fun _ _ => False) 88 [(0, .ref g.2.2.2.1), (1, .ref x), (2, .ref m), (3, .ref po), (4, .int (nI (4 * c)))] [] h (10 * (n + 1)) (8208 * (n + 1) + pot L) := by
  obtain ⟨C, R, hr, ⟨f0, hp⟩, hc⟩ := id HI
  have hnp := R.npo hp
  have c0 := C.1
  obtain ⟨ms9, m0⟩ := R.at
  by_cases hy : putOk len (g.2.2.2.2.2 (4 * c + 3))
  · obtain ⟨m9, hm1, hm8, hlm, hy⟩ := hy
    refine fx_aloadn dL_law_88 rfl ?_
    refine fx_aloadn dL_law_89 rfl ?_
    refine fx_iload dL_law_90 rfl ?_
    refine fx_iconst (nI 1) dL_law_92 (by decide) ?_
    refine fx_iadd dL_law_93 ?_
    rw [nI_add (4 * c) 1]
    refine fx_sld rfl dL_law_94 (vp_in_nI (show 4 * c + 1 < _ by omega) (by omega)) ?_
    rw [nI_clamp (by omega)]
    refine fx_i2l dL_law_95 ?_
    refine fx_bipush (nI 32) dL_law_96 (by decide) ?_
    refine fx_lshl dL_law_98 ?_
    refine fx_aloadn dL_law_99 rfl ?_
    refine fx_iload dL_law_100 rfl ?_
    refine fx_iconst (nI 2) dL_law_102 (by decide) ?_
    refine fx_iadd dL_law_103 ?_
    rw [nI_add (4 * c) 2]
    refine fx_sld rfl dL_law_104 (vp_in_nI (show 4 * c + 2 < _ by omega) (by omega)) ?_
    rw [nI_clamp (by omega)]
    refine fx_i2l dL_law_105 ?_
    refine fx_ldc2 dL_law_106 qqL_34 ?_
    refine fx_land dL_law_109 ?_
    refine fx_lor dL_law_110 ?_
    refine fx_aloadn dL_law_111 rfl ?_
    refine fx_iload dL_law_112 rfl ?_
    refine fx_iconst (nI 3) dL_law_114 (by decide) ?_
    refine fx_iadd dL_law_115 ?_
    rw [nI_add (4 * c) 3]
    refine fx_sld rfl dL_law_116 (vp_in_nI (show 4 * c + 3 < _ by omega) (by omega)) ?_
    rw [nI_clamp (by omega), hy]
    refine fx_callV dL_law_117 vX5_put kkL_36 rfl rfl c0 (c_cd_putY C _ m9 hm1 hm8 (by omega)) rfl (by decide) (by decide) (by omega) (by omega) rfl (Nat.le_of_ble_eq_true rfl) (fun r1 h1 hk1 => ?_)
    obtain ⟨rfl, col1, C1, X1⟩ := hk1
    obtain ⟨R1, hr1, hc1⟩ := HI.c (X1.o (po := po))
    have hp1 := X1.po hp hc
    obtain ⟨ms1, m1⟩ := R1.at
    refine fx_aloadn dL_law_120 rfl ?_
    refine fx_aloadn dL_law_121 rfl ?_
    refine fx_iload dL_law_122 rfl ?_
    refine fx_iconst (nI 1) dL_law_124 (by decide) ?_
    refine fx_iadd dL_law_125 ?_
    rw [nI_add (4 * c) 1]
    refine fx_sld rfl dL_law_126 (vp_in_nI (show 4 * c + 1 < _ by omega) (by omega)) ?_
    rw [nI_clamp (by omega)]
    refine fx_i2l dL_law_127 ?_
    refine fx_bipush (nI 32) dL_law_128 (by decide) ?_
    refine fx_lshl dL_law_130 ?_
    refine fx_aloadn dL_law_131 rfl ?_
    refine fx_iload dL_law_132 rfl ?_
    refine fx_iconst (nI 2) dL_law_134 (by decide) ?_
    refine fx_iadd dL_law_135 ?_
    rw [nI_add (4 * c) 2]
    refine fx_sld rfl dL_law_136 (vp_in_nI (show 4 * c + 2 < _ by omega) (by omega)) ?_
    rw [nI_clamp (by omega)]
    refine fx_i2l dL_law_137 ?_
    refine fx_ldc2 dL_law_138 qqL_34 ?_
    refine fx_land dL_law_141 ?_
    refine fx_lor dL_law_142 ?_
    refine fx_aloadn dL_law_143 rfl ?_
    refine fx_iload dL_law_144 rfl ?_
    refine fx_iconst (nI 3) dL_law_146 (by decide) ?_
    refine fx_iadd dL_law_147 ?_
    rw [nI_add (4 * c) 3]
    refine fx_sld rfl dL_law_148 (vp_in_nI (show 4 * c + 3 < _ by omega) (by omega)) ?_
    rw [nI_clamp (by omega), hy]
    refine fx_callV dL_law_149 vX6_put kkL_40 rfl rfl m1 (c_rs_put R1 _ m9 hm1 hm8 (by omega)) rfl (by decide) (by decide) (Nat.zero_le _) (Nat.zero_le _) rfl (Nat.le_of_ble_eq_true rfl) (fun r2 h2 hk2 => ?_)
    obtain ⟨rfl, R2, k2⟩ := hk2
    refine fx_icmp_eq 506 dL_law_152 (by decide) (fun c152 => ?_) (fun c152 => absurd (rfl) c152)
    exact FIN _ _ _ _ _ _ _ _ _ _ _ _ _ _ (li.r C1 hr1 hc1 hp1 (R1.npo hp1) R2 k2).1 (by omega) (by omega) (by omega) ⟨rfl, rfl, rfl, rfl, rfl, trivial⟩
  · skip
    refine fx_aloadn dL_law_88 rfl ?_
    refine fx_aloadn dL_law_89 rfl ?_
    refine fx_iload dL_law_90 rfl ?_
    refine fx_iconst (nI 1) dL_law_92 (by decide) ?_
    refine fx_iadd dL_law_93 ?_
    rw [nI_add (4 * c) 1]
    refine fx_sld rfl dL_law_94 (vp_in_nI (show 4 * c + 1 < _ by omega) (by omega)) ?_
    rw [nI_clamp (by omega)]
    refine fx_i2l dL_law_95 ?_
    refine fx_bipush (nI 32) dL_law_96 (by decide) ?_
    refine fx_lshl dL_law_98 ?_
    refine fx_aloadn dL_law_99 rfl ?_
    refine fx_iload dL_law_100 rfl ?_
    refine fx_iconst (nI 2) dL_law_102 (by decide) ?_
    refine fx_iadd dL_law_103 ?_
    rw [nI_add (4 * c) 2]
    refine fx_sld rfl dL_law_104 (vp_in_nI (show 4 * c + 2 < _ by omega) (by omega)) ?_
    rw [nI_clamp (by omega)]
    refine fx_i2l dL_law_105 ?_
    refine fx_ldc2 dL_law_106 qqL_34 ?_
    refine fx_land dL_law_109 ?_
    refine fx_lor dL_law_110 ?_
    refine fx_aloadn dL_law_111 rfl ?_
    refine fx_iload dL_law_112 rfl ?_
    refine fx_iconst (nI 3) dL_law_114 (by decide) ?_
    refine fx_iadd dL_law_115 ?_
    rw [nI_add (4 * c) 3]
    refine fx_sld rfl dL_law_116 (vp_in_nI (show 4 * c + 3 < _ by omega) (by omega)) ?_
    rw [nI_clamp (by omega)]
    refine fx_callV dL_law_117 vX5_put kkL_36 rfl rfl c0 (c_cd_putN C _ _ hy) rfl (by decide) (by decide) (by omega) (by omega) rfl (Nat.le_of_ble_eq_true rfl) (fun r1 h1 hk1 => ?_)
    obtain ⟨rfl, rfl⟩ := hk1
    refine fx_aloadn dL_law_120 rfl ?_
    refine fx_aloadn dL_law_121 rfl ?_
    refine fx_iload dL_law_122 rfl ?_
    refine fx_iconst (nI 1) dL_law_124 (by decide) ?_
    refine fx_iadd dL_law_125 ?_
    rw [nI_add (4 * c) 1]
    refine fx_sld rfl dL_law_126 (vp_in_nI (show 4 * c + 1 < _ by omega) (by omega)) ?_
    rw [nI_clamp (by omega)]
    refine fx_i2l dL_law_127 ?_
    refine fx_bipush (nI 32) dL_law_128 (by decide) ?_
    refine fx_lshl dL_law_130 ?_
    refine fx_aloadn dL_law_131 rfl ?_
    refine fx_iload dL_law_132 rfl ?_
    refine fx_iconst (nI 2) dL_law_134 (by decide) ?_
    refine fx_iadd dL_law_135 ?_
    rw [nI_add (4 * c) 2]
    refine fx_sld rfl dL_law_136 (vp_in_nI (show 4 * c + 2 < _ by omega) (by omega)) ?_
    rw [nI_clamp (by omega)]
    refine fx_i2l dL_law_137 ?_
    refine fx_ldc2 dL_law_138 qqL_34 ?_
    refine fx_land dL_law_141 ?_
    refine fx_lor dL_law_142 ?_
    refine fx_aloadn dL_law_143 rfl ?_
    refine fx_iload dL_law_144 rfl ?_
    refine fx_iconst (nI 3) dL_law_146 (by decide) ?_
    refine fx_iadd dL_law_147 ?_
    rw [nI_add (4 * c) 3]
    refine fx_sld rfl dL_law_148 (vp_in_nI (show 4 * c + 3 < _ by omega) (by omega)) ?_
    rw [nI_clamp (by omega)]
    refine fx_callV dL_law_149 vX6_put kkL_40 rfl rfl m0 (c_rs_putN R _ _ hy) rfl (by decide) (by decide) (Nat.zero_le _) (Nat.zero_le _) rfl (Nat.le_of_ble_eq_true rfl) (fun r2 h2 hk2 => ?_)
    obtain ⟨rfl, R2, k2⟩ := hk2
    refine fx_icmp_eq 506 dL_law_152 (by decide) (fun c152 => ?_) (fun c152 => absurd (rfl) c152)
    exact FIN _ _ _ _ _ _ _ _ _ _ _ _ _ _ (li.r C hr hc hp hnp R2 k2).1 (by omega) (by omega) (by omega) ⟨rfl, rfl, rfl, rfl, rfl, trivial⟩
theorem w_fault {g : fx_G} {h : fx_H} {x dq fq eq sq m pb pf pz pt pp ph pk pc po N len E L c n : Nat} {col : Nat → Nat} {F : Nat → (Nat → Nat) × Nat × Int32} {B : Nat → Nat} {I : List sg} {T : Int64} {th : Int32} (HI : li h x dq fq eq sq m pb pf pz pt pp ph pk pc po col F N B len E I T L th) (hc4 : 4 * c + 4 ≤ g.2.2.2.2.1) (hLs : g.2.2.2.2.1 ≤ 2048) (hro : ro F N + len + 8 * (n + 1) ≤ 4096) (FIN : ∀ (h' : fx_H) (lv : List (Nat × Value)) (cu su : Nat) (col' : Nat → Nat) (F' : Nat → (Nat → Nat) × Nat × Int32) (N' : Nat) (B' : Nat → Nat) (len' E' : Nat) (I' : List sg) (T' : Int64) (L' : Nat) (th' : Int32), li h' x dq fq eq sq m pb pf pz pt pp ph pk pc po col' F' N' B' len' E' I' T' L' th' → ro F' N' + len' + 8 * n ≤ 4096 → 10 * n ≤ cu → 8208 * n + pot L' ≤ su → fx_le [(0, .ref g.2.2.2.1), (1, .ref x), (2, .ref m), (3, .ref po), (4, .int (nI (4 * c)))] lv → fx_Y g mL_law 12 268 (fun r _ => r = some (.int (nI 1))) (fun _ _ => False) 506 lv [] h' cu su) : fx_Y g mL_law 12 268 (fun r _ => r = some (.int (nI 1))) (fun _ _ => False) 213 [(0, .ref g.2.2.2.1), (1, .ref x), (2, .ref m), (3, .ref po), (4, .int (nI (4 * c)))] [] h (10 * (n + 1)) (8208 * (n + 1) + pot L) := by
  obtain ⟨C, R, hr, ⟨f0, hp⟩, hc⟩ := id HI
  have hnp := R.npo hp
  have c0 := C.1
  obtain ⟨ms9, m0⟩ := R.at
  refine fx_aloadn dL_law_213 rfl ?_
  refine fx_callVp dL_law_214 vX5_fault kkL_51 rfl rfl c0 (p_cd_fault C) rfl (by decide) (by decide) rfl (Nat.le_of_ble_eq_true rfl) ?_
  refine fx_aloadn dL_law_217 rfl ?_
  refine fx_callV dL_law_218 vX6_fault kkL_54 rfl rfl m0 (c_rs_fault R) rfl (by decide) (by decide) (Nat.zero_le _) (Nat.zero_le _) rfl (Nat.le_of_ble_eq_true rfl) (fun r2 h2 hk2 => ?_)
  obtain ⟨rfl, R2, k2⟩ := hk2
  refine fx_icmp_eq 506 dL_law_221 (by decide) (fun c221 => ?_) (fun c221 => absurd (rfl) c221)
  exact FIN _ _ _ _ _ _ _ _ _ _ _ _ _ _ (li.r C hr hc hp hnp R2 k2).1 (by omega) (by omega) (by omega) ⟨rfl, rfl, rfl, rfl, rfl, trivial⟩
theorem w_item {g : fx_G} {h : fx_H} {x dq fq eq sq m pb pf pz pt pp ph pk pc po N len E L c n : Nat} {col : Nat → Nat} {F : Nat → (Nat → Nat) × Nat × Int32} {B : Nat → Nat} {I : List sg} {T : Int64} {th : Int32} (HI : li h x dq fq eq sq m pb pf pz pt pp ph pk pc po col F N B len E I T L th) (hc4 : 4 * c + 4 ≤ g.2.2.2.2.1) (hLs : g.2.2.2.2.1 ≤ 2048) (hro : ro F N + len + 8 * (n + 1) ≤ 4096) (FIN : ∀ (h' : fx_H) (lv : List (Nat × Value)) (cu su : Nat) (col' : Nat → Nat) (F' : Nat → (Nat → Nat) × Nat × Int32) (N' : Nat) (B' : Nat → Nat) (len' E' : Nat) (I' : List sg) (T' : Int64) (L' : Nat) (th' : Int32), li h' x dq fq eq sq m pb pf pz pt pp ph pk pc po col' F' N' B' len' E' I' T' L' th' → ro F' N' + len' + 8 * n ≤ 4096 → 10 * n ≤ cu → 8208 * n + pot L' ≤ su → fx_le [(0, .ref g.2.2.2.1), (1, .ref x), (2, .ref m), (3, .ref po), (4, .int (nI (4 * c)))] lv → fx_Y g mL_law 12 268 (fun r _ => r = some (.int (nI 1))) (fun _ _ => False) 506 lv [] h' cu su) : fx_Y g mL_law 12 268 (fun r _ => r = some (.int (nI 1))) (fun _ _ => False) 430 [(0, .ref g.2.2.2.1), (1, .ref x), (2, .ref m), (3, .ref po), (4, .int (nI (4 * c)))] [] h (10 * (n + 1)) (8208 * (n + 1) + pot L) := by
  obtain ⟨C, R, hr, ⟨f0, hp⟩, hc⟩ := id HI
  have hnp := R.npo hp
  have c0 := C.1
  obtain ⟨ms9, m0⟩ := R.at
  refine fx_aloadn dL_law_430 rfl ?_
  refine fx_aloadn dL_law_431 rfl ?_
  refine fx_iload dL_law_432 rfl ?_
  refine fx_iconst (nI 1) dL_law_434 (by decide) ?_
  refine fx_iadd dL_law_435 ?_
  rw [nI_add (4 * c) 1]
  refine fx_sld rfl dL_law_436 (vp_in_nI (show 4 * c + 1 < _ by omega) (by omega)) ?_
  rw [nI_clamp (by omega)]
  refine fx_aloadn dL_law_437 rfl ?_
  refine fx_iload dL_law_438 rfl ?_
  refine fx_iconst (nI 2) dL_law_440 (by decide) ?_
  refine fx_iadd dL_law_441 ?_
  rw [nI_add (4 * c) 2]
  refine fx_sld rfl dL_law_442 (vp_in_nI (show 4 * c + 2 < _ by omega) (by omega)) ?_
  rw [nI_clamp (by omega)]
  refine fx_callVp dL_law_443 vX5_item kkL_66 rfl rfl c0 (p_cd_item C _ _) rfl (by decide) (by decide) rfl (Nat.le_of_ble_eq_true rfl) ?_
  refine fx_aloadn dL_law_446 rfl ?_
  refine fx_aloadn dL_law_447 rfl ?_
  refine fx_iload dL_law_448 rfl ?_
  refine fx_iconst (nI 1) dL_law_450 (by decide) ?_
  refine fx_iadd dL_law_451 ?_
  rw [nI_add (4 * c) 1]
  refine fx_sld rfl dL_law_452 (vp_in_nI (show 4 * c + 1 < _ by omega) (by omega)) ?_
  rw [nI_clamp (by omega)]
  refine fx_aloadn dL_law_453 rfl ?_
  refine fx_iload dL_law_454 rfl ?_
  refine fx_iconst (nI 2) dL_law_456 (by decide) ?_
  refine fx_iadd dL_law_457 ?_
  rw [nI_add (4 * c) 2]
  refine fx_sld rfl dL_law_458 (vp_in_nI (show 4 * c + 2 < _ by omega) (by omega)) ?_
  rw [nI_clamp (by omega)]
  refine fx_callV dL_law_459 vX6_item kkL_69 rfl rfl m0 (c_rs_item R _ _) rfl (by decide) (by decide) (Nat.zero_le _) (Nat.zero_le _) rfl (Nat.le_of_ble_eq_true rfl) (fun r2 h2 hk2 => ?_)
  obtain ⟨rfl, R2, k2⟩ := hk2
  refine fx_icmp_eq 506 dL_law_462 (by decide) (fun c462 => ?_) (fun c462 => absurd (rfl) c462)
  exact FIN _ _ _ _ _ _ _ _ _ _ _ _ _ _ (li.r C hr hc hp hnp R2 k2).1 (by omega) (by omega) (by omega) ⟨rfl, rfl, rfl, rfl, rfl, trivial⟩
theorem w_count {g : fx_G} {h : fx_H} {x dq fq eq sq m pb pf pz pt pp ph pk pc po N len E L c n : Nat} {col : Nat → Nat} {F : Nat → (Nat → Nat) × Nat × Int32} {B : Nat → Nat} {I : List sg} {T : Int64} {th : Int32} (HI : li h x dq fq eq sq m pb pf pz pt pp ph pk pc po col F N B len E I T L th) (hc4 : 4 * c + 4 ≤ g.2.2.2.2.1) (hLs : g.2.2.2.2.1 ≤ 2048) (hro : ro F N + len + 8 * (n + 1) ≤ 4096) (FIN : ∀ (h' : fx_H) (lv : List (Nat × Value)) (cu su : Nat) (col' : Nat → Nat) (F' : Nat → (Nat → Nat) × Nat × Int32) (N' : Nat) (B' : Nat → Nat) (len' E' : Nat) (I' : List sg) (T' : Int64) (L' : Nat) (th' : Int32), li h' x dq fq eq sq m pb pf pz pt pp ph pk pc po col' F' N' B' len' E' I' T' L' th' → ro F' N' + len' + 8 * n ≤ 4096 → 10 * n ≤ cu → 8208 * n + pot L' ≤ su → fx_le [(0, .ref g.2.2.2.1), (1, .ref x), (2, .ref m), (3, .ref po), (4, .int (nI (4 * c)))] lv → fx_Y g mL_law 12 268 (fun r _ => r = some (.int (nI 1))) (fun _ _ => False) 506 lv [] h' cu su) : fx_Y g mL_law 12 268 (fun r _ => r = some (.int (nI 1))) (fun _ _ => False) 481 [(0, .ref g.2.2.2.1), (1, .ref x), (2, .ref m), (3, .ref po), (4, .int (nI (4 * c)))] [] h (10 * (n + 1)) (8208 * (n + 1) + pot L) := by
  obtain ⟨C, R, hr, ⟨f0, hp⟩, hc⟩ := id HI
  have hnp := R.npo hp
  have c0 := C.1
  obtain ⟨ms9, m0⟩ := R.at
  refine fx_aloadn dL_law_481 rfl ?_
  refine fx_aloadn dL_law_482 rfl ?_
  refine fx_iload dL_law_483 rfl ?_
  refine fx_iconst (nI 1) dL_law_485 (by decide) ?_
  refine fx_iadd dL_law_486 ?_
  rw [nI_add (4 * c) 1]
  refine fx_sld rfl dL_law_487 (vp_in_nI (show 4 * c + 1 < _ by omega) (by omega)) ?_
  rw [nI_clamp (by omega)]
  refine fx_callVp dL_law_488 vX5_count kkL_75 rfl rfl c0 (p_cd_count C _) rfl (by decide) (by decide) rfl (Nat.le_of_ble_eq_true rfl) ?_
  refine fx_aloadn dL_law_491 rfl ?_
  refine fx_aloadn dL_law_492 rfl ?_
  refine fx_iload dL_law_493 rfl ?_
  refine fx_iconst (nI 1) dL_law_495 (by decide) ?_
  refine fx_iadd dL_law_496 ?_
  rw [nI_add (4 * c) 1]
  refine fx_sld rfl dL_law_497 (vp_in_nI (show 4 * c + 1 < _ by omega) (by omega)) ?_
  rw [nI_clamp (by omega)]
  refine fx_callV dL_law_498 vX6_count kkL_78 rfl rfl m0 (c_rs_count R _) rfl (by decide) (by decide) (Nat.zero_le _) (Nat.zero_le _) rfl (Nat.le_of_ble_eq_true rfl) (fun r2 h2 hk2 => ?_)
  obtain ⟨rfl, R2, k2⟩ := hk2
  refine fx_icmp_eq 506 dL_law_501 (by decide) (fun c501 => ?_) (fun c501 => absurd (rfl) c501)
  exact FIN _ _ _ _ _ _ _ _ _ _ _ _ _ _ (li.r C hr hc hp hnp R2 k2).1 (by omega) (by omega) (by omega) ⟨rfl, rfl, rfl, rfl, rfl, trivial⟩
theorem w_width {g : fx_G} {h : fx_H} {x dq fq eq sq m pb pf pz pt pp ph pk pc po N len E L c n : Nat} {col : Nat → Nat} {F : Nat → (Nat → Nat) × Nat × Int32} {B : Nat → Nat} {I : List sg} {T : Int64} {th : Int32} (HI : li h x dq fq eq sq m pb pf pz pt pp ph pk pc po col F N B len E I T L th) (hc4 : 4 * c + 4 ≤ g.2.2.2.2.1) (hLs : g.2.2.2.2.1 ≤ 2048) (hro : ro F N + len + 8 * (n + 1) ≤ 4096) (FIN : ∀ (h' : fx_H) (lv : List (Nat × Value)) (cu su : Nat) (col' : Nat → Nat) (F' : Nat → (Nat → Nat) × Nat × Int32) (N' : Nat) (B' : Nat → Nat) (len' E' : Nat) (I' : List sg) (T' : Int64) (L' : Nat) (th' : Int32), li h' x dq fq eq sq m pb pf pz pt pp ph pk pc po col' F' N' B' len' E' I' T' L' th' → ro F' N' + len' + 8 * n ≤ 4096 → 10 * n ≤ cu → 8208 * n + pot L' ≤ su → fx_le [(0, .ref g.2.2.2.1), (1, .ref x), (2, .ref m), (3, .ref po), (4, .int (nI (4 * c)))] lv → fx_Y g mL_law 12 268 (fun r _ => r = some (.int (nI 1))) (fun _ _ => False) 506 lv [] h' cu su) : fx_Y g mL_law 12 268 (fun r _ => r = some (.int (nI 1))) (fun _ _ => False) 467 [(0, .ref g.2.2.2.1), (1, .ref x), (2, .ref m), (3, .ref po), (4, .int (nI (4 * c)))] [] h (10 * (n + 1)) (8208 * (n + 1) + pot L) := by
  obtain ⟨C, R, hr, ⟨f0, hp⟩, hc⟩ := id HI
  have hnp := R.npo hp
  have c0 := C.1
  obtain ⟨ms9, m0⟩ := R.at
  refine fx_aloadn dL_law_467 rfl ?_
  refine fx_callVp dL_law_468 vX5_width kkL_70 rfl rfl c0 (p_cd_width C) rfl (by decide) (by decide) rfl (Nat.le_of_ble_eq_true rfl) ?_
  refine fx_aloadn dL_law_471 rfl ?_
  refine fx_callV dL_law_472 vX6_width kkL_74 rfl rfl m0 (c_rs_width R) rfl (by decide) (by decide) (Nat.zero_le _) (Nat.zero_le _) rfl (Nat.le_of_ble_eq_true rfl) (fun r2 h2 hk2 => ?_)
  obtain ⟨rfl, R2, k2⟩ := hk2
  refine fx_lcmp dL_law_475 ?_
  refine fx_if_eq 506 dL_law_476 (by decide) (fun c476 => ?_) (fun c476 => absurd (lcmp0 _) c476)
  exact FIN _ _ _ _ _ _ _ _ _ _ _ _ _ _ (li.r C hr hc hp hnp R2 k2).1 (by omega) (by omega) (by omega) ⟨rfl, rfl, rfl, rfl, rfl, trivial⟩
theorem kkL_41 : Cond.methodLink mL_law.1.cls 41 mL_load.1 ∈ fx_ws := fx_in 270 rfl rfl
set_option maxRecDepth 100000 in
theorem kkL_55 : Cond.methodLink mL_law.1.cls 55 mL_metric.1 ∈ fx_ws := fx_in 582 rfl rfl
set_option maxRecDepth 100000 in
theorem kkL_59 : Cond.methodLink mL_law.1.cls 59 mL_parameter.1 ∈ fx_ws := fx_in 616 rfl rfl
set_option maxRecDepth 100000 in
theorem kkL_63 : Cond.methodLink mL_law.1.cls 63 mL_set.1 ∈ fx_ws := fx_in 628 rfl rfl
theorem w_load {g : fx_G} {h : fx_H} {x dq fq eq sq m pb pf pz pt pp ph pk pc po N len E L c n : Nat} {col : Nat → Nat} {F : Nat → (Nat → Nat) × Nat × Int32} {B : Nat → Nat} {I : List sg} {T : Int64} {th : Int32} (HI : li h x dq fq eq sq m pb pf pz pt pp ph pk pc po col F N B len E I T L th) (hc4 : 4 * c + 4 ≤ g.2.2.2.2.1) (hLs : g.2.2.2.2.1 ≤ 2048) (hro : ro F N + len + 8 * (n + 1) ≤ 4096) (FIN : ∀ (h' : fx_H) (lv : List (Nat × Value)) (cu su : Nat) (col' : Nat → Nat) (F' : Nat → (Nat → Nat) × Nat × Int32) (N' : Nat) (B' : Nat → Nat) (len' E' : Nat) (I' : List sg) (T' : Int64) (L' : Nat) (th' : Int32), li h' x dq fq eq sq m pb pf pz pt pp ph pk pc po col' F' N' B' len' E' I' T' L' th' → ro F' N' + len' + 8 * n ≤ 4096 → 10 * n ≤ cu → 8208 * n + pot L' ≤ su → fx_le [(0, .ref g.2.2.2.1), (1, .ref x), (2, .ref m), (3, .ref po), (4, .int (nI (4 * c)))] lv → fx_Y g mL_law 12 268 (fun r _ => r = some (.int (nI 1))) (fun _ _ => False) 506 lv [] h' cu su) : fx_Y g mL_law 12 268 (fun r _ => r = some (.int (nI 1))) (fun _ _ => False) 157 [(0, .ref g.2.2.2.1), (1, .ref x), (2, .ref m), (3, .ref po), (4, .int (nI (4 * c)))] [] h (10 * (n + 1)) (8208 * (n + 1) + pot L) := by
  obtain ⟨C, R, hr, ⟨f0, hp⟩, hc⟩ := id HI
  have hnp := R.npo hp
  have c0 := C.1
  obtain ⟨ms9, m0⟩ := R.at
  have hBD : (∀ i, by_ B len i < 256) ∧ ∀ j, j < len → B j < 256 := by
    obtain ⟨pb9, cap9, D9, -⟩ := C.2.2.1
    refine ⟨D9.by_lt, fun j hj => ?_⟩
    have := D9.by_lt j
    unfold by_ at this
    rw [if_pos hj] at this
    exact this
  have hL9 : L ≤ 65792 := C.2.2.2.2.2.2.2.1
  have hpot := ld_le (by_ B len) len L hL9
  by_cases hy : noL N (g.2.2.2.2.2 (4 * c + 1))
  · skip
    refine fx_aloadn dL_law_157 rfl ?_
    refine fx_aloadn dL_law_158 rfl ?_
    refine fx_iload dL_law_159 rfl ?_
    refine fx_iconst (nI 1) dL_law_161 (by decide) ?_
    refine fx_iadd dL_law_162 ?_
    rw [nI_add (4 * c) 1]
    refine fx_sld rfl dL_law_163 (vp_in_nI (show 4 * c + 1 < _ by omega) (by omega)) ?_
    rw [nI_clamp (by omega)]
    refine fx_aloadn dL_law_164 rfl ?_
    refine fx_callSW rfl dL_law_165 vL_load kkL_41 (h_loadN C hp hc _ hy) rfl (by decide) (by decide) (by omega) (by omega) rfl (Nat.le_of_ble_eq_true rfl) (fun r1 h1 hk1 => ?_)
    obtain ⟨rfl, hpe, col1, C1, X1⟩ := hk1
    obtain ⟨R1, hr1, hc1⟩ := HI.c X1
    have hp1 := hpe.trans hp
    obtain ⟨ms1, m1⟩ := R1.at
    refine fx_istore dL_law_168 (by decide) ?_
    refine fx_aloadn dL_law_170 rfl ?_
    refine fx_aloadn dL_law_171 rfl ?_
    refine fx_iload dL_law_172 rfl ?_
    refine fx_iconst (nI 1) dL_law_174 (by decide) ?_
    refine fx_iadd dL_law_175 ?_
    rw [nI_add (4 * c) 1]
    refine fx_sld rfl dL_law_176 (vp_in_nI (show 4 * c + 1 < _ by omega) (by omega)) ?_
    rw [nI_clamp (by omega)]
    refine fx_callV dL_law_177 vX6_load kkL_46 rfl rfl m1 (c_rs_loadN R1 _ hy) rfl (by decide) (by decide) (Nat.zero_le _) (Nat.zero_le _) rfl (Nat.le_of_ble_eq_true rfl) (fun r2 h2 hk2 => ?_)
    obtain ⟨rfl, R2, k2⟩ := hk2
    obtain ⟨ms2, m2⟩ := R2.at
    refine fx_istore dL_law_180 (by decide) ?_
    refine fx_aloadn dL_law_182 rfl ?_
    refine fx_callVp dL_law_183 vX6_thrown kkL_47 rfl rfl m2 (p_rs_thrown R2) rfl (by decide) (by decide) rfl (Nat.le_of_ble_eq_true rfl) ?_
    refine fx_iload dL_law_186 rfl ?_
    refine fx_icmp_eq 193 dL_law_188 (by decide) (fun c188 => ?_) (fun c188 => absurd (rfl) c188)
    refine fx_iload dL_law_193 rfl ?_
    refine fx_if_ne 210 dL_law_195 (by decide) (fun c195 => ?_) (fun c195 => absurd c195 (by decide))
    refine fx_goto 506 dL_law_210 (by decide) ?_
    exact FIN _ _ _ _ _ _ _ _ _ _ _ _ _ _ (li.r C1 hr1 hc1 hp1 (R1.npo hp1) R2 k2).1 (by omega) (by omega) (by omega) ⟨rfl, rfl, rfl, rfl, rfl, trivial⟩
  · skip
    refine fx_aloadn dL_law_157 rfl ?_
    refine fx_aloadn dL_law_158 rfl ?_
    refine fx_iload dL_law_159 rfl ?_
    refine fx_iconst (nI 1) dL_law_161 (by decide) ?_
    refine fx_iadd dL_law_162 ?_
    rw [nI_add (4 * c) 1]
    refine fx_sld rfl dL_law_163 (vp_in_nI (show 4 * c + 1 < _ by omega) (by omega)) ?_
    rw [nI_clamp (by omega)]
    refine fx_aloadn dL_law_164 rfl ?_
    refine fx_callSW rfl dL_law_165 vL_load kkL_41 (h_load C hp hc (by omega) _ hy) rfl (by decide) (by decide) (by omega) (by omega) rfl (Nat.le_of_ble_eq_true rfl) (fun r1 h1 hk1 => ?_)
    rcases hk1 with ⟨hfa, hk1⟩ | ⟨hfa, hk1⟩
    · obtain ⟨rfl, ⟨f1, hp1, hf1⟩, col1, C1, X1⟩ := hk1
      obtain ⟨R1, hr1, hc1⟩ := HI.c X1
      obtain ⟨ms1, m1⟩ := R1.at
      have hnb := fa_0 hBD.1 hfa
      have hro9 : ro (fnew F N ((by_ B len), ml_H (by_ B len) 0, ml_z (by_ B len) (g.2.2.2.2.2 (4 * c + 1)))) (N + 1) + 0 = ro F N + len := by
        show ro (fnew F N ((by_ B len), ml_H (by_ B len) 0, ml_z (by_ B len) (g.2.2.2.2.2 (4 * c + 1)))) N + 4 * (fnew F N ((by_ B len), ml_H (by_ B len) 0, ml_z (by_ B len) (g.2.2.2.2.2 (4 * c + 1))) N).2.1 + 0 = _
        rw [ro_ext (F := F) N (fun j hj => fnew_n (by omega)), fnew_s]
        show ro F N + 4 * ml_H (by_ B len) 0 + 0 = ro F N + len
        rw [Nat.add_zero]
        exact congrArg (fun t => ro F N + t) hnb.1.symm
      refine fx_istore dL_law_168 (by decide) ?_
      refine fx_aloadn dL_law_170 rfl ?_
      refine fx_aloadn dL_law_171 rfl ?_
      refine fx_iload dL_law_172 rfl ?_
      refine fx_iconst (nI 1) dL_law_174 (by decide) ?_
      refine fx_iadd dL_law_175 ?_
      rw [nI_add (4 * c) 1]
      refine fx_sld rfl dL_law_176 (vp_in_nI (show 4 * c + 1 < _ by omega) (by omega)) ?_
      rw [nI_clamp (by omega)]
      refine fx_callV dL_law_177 vX6_load kkL_46 rfl rfl m1 (c_rs_loadY R1 hBD.1 _ hy hfa) rfl (by decide) (by decide) (Nat.zero_le _) (Nat.zero_le _) rfl (Nat.le_of_ble_eq_true rfl) (fun r2 h2 hk2 => ?_)
      obtain ⟨rfl, R2, k2⟩ := hk2
      obtain ⟨ms2, m2⟩ := R2.at
      have hp2 := (li.r C1 hr1 hc1 hp1 (R1.npo hp1) R2 k2).2
      refine fx_istore dL_law_180 (by decide) ?_
      refine fx_aloadn dL_law_182 rfl ?_
      refine fx_callVp dL_law_183 vX6_thrown kkL_47 rfl rfl m2 (p_rs_thrown R2) rfl (by decide) (by decide) rfl (Nat.le_of_ble_eq_true rfl) ?_
      refine fx_iload dL_law_186 rfl ?_
      refine fx_icmp_eq 193 dL_law_188 (by decide) (fun c188 => ?_) (fun c188 => absurd (rfl) c188)
      refine fx_iload dL_law_193 rfl ?_
      refine fx_if_ne 210 dL_law_195 (by decide) (fun c195 => absurd (rfl) c195) (fun c195 => ?_)
      refine fx_aloadn dL_law_198 rfl ?_
      refine fx_iconst (nI 0) dL_law_199 (by decide) ?_
      refine fx_lald dL_law_200 hp2 (vp_in_nI (show 0 < 1 by decide) (by decide)) ?_
      rw [show f1 (nI 0).toNatClampNeg = f1 0 from rfl, hf1]
      refine fx_iload dL_law_201 rfl ?_
      refine fx_i2l dL_law_203 ?_
      refine fx_lcmp dL_law_204 ?_
      refine fx_if_eq 210 dL_law_205 (by decide) (fun c205 => ?_) (fun c205 => absurd (lcmp0 _) c205)
      refine fx_goto 506 dL_law_210 (by decide) ?_
      exact FIN _ _ _ _ _ _ _ _ _ _ _ _ _ _ (li.r C1 hr1 hc1 hp1 (R1.npo hp1) R2 k2).1 (by rw [hro9]; omega) (by omega) (by omega) ⟨rfl, rfl, rfl, rfl, rfl, trivial⟩
    · obtain ⟨rfl, hpe, col1, C1, X1⟩ := hk1
      obtain ⟨R1, hr1, hc1⟩ := HI.c X1
      have hp1 := hpe.trans hp
      obtain ⟨ms1, m1⟩ := R1.at
      refine fx_istore dL_law_168 (by decide) ?_
      refine fx_aloadn dL_law_170 rfl ?_
      refine fx_aloadn dL_law_171 rfl ?_
      refine fx_iload dL_law_172 rfl ?_
      refine fx_iconst (nI 1) dL_law_174 (by decide) ?_
      refine fx_iadd dL_law_175 ?_
      rw [nI_add (4 * c) 1]
      refine fx_sld rfl dL_law_176 (vp_in_nI (show 4 * c + 1 < _ by omega) (by omega)) ?_
      rw [nI_clamp (by omega)]
      refine fx_callV dL_law_177 vX6_load kkL_46 rfl rfl m1 (c_rs_loadR R1 hBD.1 _ hy hfa) rfl (by decide) (by decide) (Nat.zero_le _) (Nat.zero_le _) rfl (Nat.le_of_ble_eq_true rfl) (fun r2 h2 hk2 => ?_)
      obtain ⟨rfl, R2, k2⟩ := hk2
      obtain ⟨ms2, m2⟩ := R2.at
      refine fx_istore dL_law_180 (by decide) ?_
      refine fx_aloadn dL_law_182 rfl ?_
      refine fx_callVp dL_law_183 vX6_thrown kkL_47 rfl rfl m2 (p_rs_thrown R2) rfl (by decide) (by decide) rfl (Nat.le_of_ble_eq_true rfl) ?_
      refine fx_iload dL_law_186 rfl ?_
      refine fx_icmp_eq 193 dL_law_188 (by decide) (fun c188 => ?_) (fun c188 => absurd (rfl) c188)
      refine fx_iload dL_law_193 rfl ?_
      refine fx_if_ne 210 dL_law_195 (by decide) (fun c195 => ?_) (fun c195 => absurd c195 (by decide))
      refine fx_goto 506 dL_law_210 (by decide) ?_
      exact FIN _ _ _ _ _ _ _ _ _ _ _ _ _ _ (li.r C1 hr1 hc1 hp1 (R1.npo hp1) R2 k2).1 (by omega) (by omega) (by omega) ⟨rfl, rfl, rfl, rfl, rfl, trivial⟩
theorem w_metric {g : fx_G} {h : fx_H} {x dq fq eq sq m pb pf pz pt pp ph pk pc po N len E L c n : Nat} {col : Nat → Nat} {F : Nat → (Nat → Nat) × Nat × Int32} {B : Nat → Nat} {I : List sg} {T : Int64} {th : Int32} (HI : li h x dq fq eq sq m pb pf pz pt pp ph pk pc po col F N B len E I T L th) (hc4 : 4 * c + 4 ≤ g.2.2.2.2.1) (hLs : g.2.2.2.2.1 ≤ 2048) (hro : ro F N + len + 8 * (n + 1) ≤ 4096) (FIN : ∀ (h' : fx_H) (lv : List (Nat × Value)) (cu su : Nat) (col' : Nat → Nat) (F' : Nat → (Nat → Nat) × Nat × Int32) (N' : Nat) (B' : Nat → Nat) (len' E' : Nat) (I' : List sg) (T' : Int64) (L' : Nat) (th' : Int32), li h' x dq fq eq sq m pb pf pz pt pp ph pk pc po col' F' N' B' len' E' I' T' L' th' → ro F' N' + len' + 8 * n ≤ 4096 → 10 * n ≤ cu → 8208 * n + pot L' ≤ su → fx_le [(0, .ref g.2.2.2.1), (1, .ref x), (2, .ref m), (3, .ref po), (4, .int (nI (4 * c)))] lv → fx_Y g mL_law 12 268 (fun r _ => r = some (.int (nI 1))) (fun _ _ => False) 506 lv [] h' cu su) : fx_Y g mL_law 12 268 (fun r _ => r = some (.int (nI 1))) (fun _ _ => False) 226 [(0, .ref g.2.2.2.1), (1, .ref x), (2, .ref m), (3, .ref po), (4, .int (nI (4 * c)))] [] h (10 * (n + 1)) (8208 * (n + 1) + pot L) := by
  obtain ⟨C, R, hr, ⟨f0, hp⟩, hc⟩ := id HI
  have hnp := R.npo hp
  have c0 := C.1
  obtain ⟨ms9, m0⟩ := R.at
  have hN9 : N ≤ 32 := C.2.2.2.2.2.2.2.2.1
  have hfk : foks F N := C.2.2.2.2.2.2.2.2.2.2
  rcases noM.or F N (g.2.2.2.2.2 (4 * c + 1)) (g.2.2.2.2.2 (4 * c + 2)) (g.2.2.2.2.2 (4 * c + 3)) (by omega) hfk with hy | ⟨k, c9, q, hk, hx, hq, hyy, hcc, hc9, hc0⟩
  · skip
    refine fx_aloadn dL_law_226 rfl ?_
    refine fx_aloadn dL_law_227 rfl ?_
    refine fx_iload dL_law_228 rfl ?_
    refine fx_iconst (nI 1) dL_law_230 (by decide) ?_
    refine fx_iadd dL_law_231 ?_
    rw [nI_add (4 * c) 1]
    refine fx_sld rfl dL_law_232 (vp_in_nI (show 4 * c + 1 < _ by omega) (by omega)) ?_
    rw [nI_clamp (by omega)]
    refine fx_aloadn dL_law_233 rfl ?_
    refine fx_iload dL_law_234 rfl ?_
    refine fx_iconst (nI 2) dL_law_236 (by decide) ?_
    refine fx_iadd dL_law_237 ?_
    rw [nI_add (4 * c) 2]
    refine fx_sld rfl dL_law_238 (vp_in_nI (show 4 * c + 2 < _ by omega) (by omega)) ?_
    rw [nI_clamp (by omega)]
    refine fx_aloadn dL_law_239 rfl ?_
    refine fx_iload dL_law_240 rfl ?_
    refine fx_iconst (nI 3) dL_law_242 (by decide) ?_
    refine fx_iadd dL_law_243 ?_
    rw [nI_add (4 * c) 3]
    refine fx_sld rfl dL_law_244 (vp_in_nI (show 4 * c + 3 < _ by omega) (by omega)) ?_
    rw [nI_clamp (by omega)]
    refine fx_aloadn dL_law_245 rfl ?_
    refine fx_callSW rfl dL_law_246 vL_metric kkL_55 (h_metricN C hp hc _ _ _ hy) rfl (by decide) (by decide) (by omega) (by omega) rfl (Nat.le_of_ble_eq_true rfl) (fun r1 h1 hk1 => ?_)
    obtain ⟨rfl, hpe, col1, C1, X1⟩ := hk1
    obtain ⟨R1, hr1, hc1⟩ := HI.c X1
    have hp1 := hpe.trans hp
    obtain ⟨ms1, m1⟩ := R1.at
    refine fx_istore dL_law_249 (by decide) ?_
    refine fx_aloadn dL_law_251 rfl ?_
    refine fx_aloadn dL_law_252 rfl ?_
    refine fx_iload dL_law_253 rfl ?_
    refine fx_iconst (nI 1) dL_law_255 (by decide) ?_
    refine fx_iadd dL_law_256 ?_
    rw [nI_add (4 * c) 1]
    refine fx_sld rfl dL_law_257 (vp_in_nI (show 4 * c + 1 < _ by omega) (by omega)) ?_
    rw [nI_clamp (by omega)]
    refine fx_aloadn dL_law_258 rfl ?_
    refine fx_iload dL_law_259 rfl ?_
    refine fx_iconst (nI 2) dL_law_261 (by decide) ?_
    refine fx_iadd dL_law_262 ?_
    rw [nI_add (4 * c) 2]
    refine fx_sld rfl dL_law_263 (vp_in_nI (show 4 * c + 2 < _ by omega) (by omega)) ?_
    rw [nI_clamp (by omega)]
    refine fx_aloadn dL_law_264 rfl ?_
    refine fx_iload dL_law_265 rfl ?_
    refine fx_iconst (nI 3) dL_law_267 (by decide) ?_
    refine fx_iadd dL_law_268 ?_
    rw [nI_add (4 * c) 3]
    refine fx_sld rfl dL_law_269 (vp_in_nI (show 4 * c + 3 < _ by omega) (by omega)) ?_
    rw [nI_clamp (by omega)]
    refine fx_callV dL_law_270 vX6_metric kkL_58 rfl rfl m1 (c_rs_metricN R1 _ _ _ hy) rfl (by decide) (by decide) (Nat.zero_le _) (Nat.zero_le _) rfl (Nat.le_of_ble_eq_true rfl) (fun r2 h2 hk2 => ?_)
    obtain ⟨rfl, R2, k2⟩ := hk2
    obtain ⟨ms2, m2⟩ := R2.at
    refine fx_istore dL_law_273 (by decide) ?_
    refine fx_aloadn dL_law_275 rfl ?_
    refine fx_callVp dL_law_276 vX6_thrown kkL_47 rfl rfl m2 (p_rs_thrown R2) rfl (by decide) (by decide) rfl (Nat.le_of_ble_eq_true rfl) ?_
    refine fx_iload dL_law_279 rfl ?_
    refine fx_icmp_eq 286 dL_law_281 (by decide) (fun c281 => ?_) (fun c281 => absurd (rfl) c281)
    refine fx_iload dL_law_286 rfl ?_
    refine fx_if_ne 303 dL_law_288 (by decide) (fun c288 => ?_) (fun c288 => absurd c288 (by decide))
    refine fx_goto 506 dL_law_303 (by decide) ?_
    exact FIN _ _ _ _ _ _ _ _ _ _ _ _ _ _ (li.r C1 hr1 hc1 hp1 (R1.npo hp1) R2 k2).1 (by omega) (by omega) (by omega) ⟨rfl, rfl, rfl, rfl, rfl, trivial⟩
  · skip
    refine fx_aloadn dL_law_226 rfl ?_
    refine fx_aloadn dL_law_227 rfl ?_
    refine fx_iload dL_law_228 rfl ?_
    refine fx_iconst (nI 1) dL_law_230 (by decide) ?_
    refine fx_iadd dL_law_231 ?_
    rw [nI_add (4 * c) 1]
    refine fx_sld rfl dL_law_232 (vp_in_nI (show 4 * c + 1 < _ by omega) (by omega)) ?_
    rw [nI_clamp (by omega), hx]
    refine fx_aloadn dL_law_233 rfl ?_
    refine fx_iload dL_law_234 rfl ?_
    refine fx_iconst (nI 2) dL_law_236 (by decide) ?_
    refine fx_iadd dL_law_237 ?_
    rw [nI_add (4 * c) 2]
    refine fx_sld rfl dL_law_238 (vp_in_nI (show 4 * c + 2 < _ by omega) (by omega)) ?_
    rw [nI_clamp (by omega), hcc]
    refine fx_aloadn dL_law_239 rfl ?_
    refine fx_iload dL_law_240 rfl ?_
    refine fx_iconst (nI 3) dL_law_242 (by decide) ?_
    refine fx_iadd dL_law_243 ?_
    rw [nI_add (4 * c) 3]
    refine fx_sld rfl dL_law_244 (vp_in_nI (show 4 * c + 3 < _ by omega) (by omega)) ?_
    rw [nI_clamp (by omega), hyy]
    refine fx_aloadn dL_law_245 rfl ?_
    refine fx_callSW rfl dL_law_246 vL_metric kkL_55 (h_metricY C hp hc k c9 q hk hc9 hc0 hq) rfl (by decide) (by decide) (by omega) (by omega) rfl (Nat.le_of_ble_eq_true rfl) (fun r1 h1 hk1 => ?_)
    obtain ⟨rfl, ⟨f1, hp1, hf1⟩, col1, C1, X1⟩ := hk1
    obtain ⟨R1, hr1, hc1⟩ := HI.c X1
    obtain ⟨ms1, m1⟩ := R1.at
    refine fx_istore dL_law_249 (by decide) ?_
    refine fx_aloadn dL_law_251 rfl ?_
    refine fx_aloadn dL_law_252 rfl ?_
    refine fx_iload dL_law_253 rfl ?_
    refine fx_iconst (nI 1) dL_law_255 (by decide) ?_
    refine fx_iadd dL_law_256 ?_
    rw [nI_add (4 * c) 1]
    refine fx_sld rfl dL_law_257 (vp_in_nI (show 4 * c + 1 < _ by omega) (by omega)) ?_
    rw [nI_clamp (by omega), hx]
    refine fx_aloadn dL_law_258 rfl ?_
    refine fx_iload dL_law_259 rfl ?_
    refine fx_iconst (nI 2) dL_law_261 (by decide) ?_
    refine fx_iadd dL_law_262 ?_
    rw [nI_add (4 * c) 2]
    refine fx_sld rfl dL_law_263 (vp_in_nI (show 4 * c + 2 < _ by omega) (by omega)) ?_
    rw [nI_clamp (by omega), hcc]
    refine fx_aloadn dL_law_264 rfl ?_
    refine fx_iload dL_law_265 rfl ?_
    refine fx_iconst (nI 3) dL_law_267 (by decide) ?_
    refine fx_iadd dL_law_268 ?_
    rw [nI_add (4 * c) 3]
    refine fx_sld rfl dL_law_269 (vp_in_nI (show 4 * c + 3 < _ by omega) (by omega)) ?_
    rw [nI_clamp (by omega), hyy]
    refine fx_callV dL_law_270 vX6_metric kkL_58 rfl rfl m1 (c_rs_metricY R1 k c9 q hk hc0 hq) rfl (by decide) (by decide) (Nat.zero_le _) (Nat.zero_le _) rfl (Nat.le_of_ble_eq_true rfl) (fun r2 h2 hk2 => ?_)
    obtain ⟨rfl, R2, k2⟩ := hk2
    obtain ⟨ms2, m2⟩ := R2.at
    have hp2 := (li.r C1 hr1 hc1 hp1 (R1.npo hp1) R2 k2).2
    refine fx_istore dL_law_273 (by decide) ?_
    refine fx_aloadn dL_law_275 rfl ?_
    refine fx_callVp dL_law_276 vX6_thrown kkL_47 rfl rfl m2 (p_rs_thrown R2) rfl (by decide) (by decide) rfl (Nat.le_of_ble_eq_true rfl) ?_
    refine fx_iload dL_law_279 rfl ?_
    refine fx_icmp_eq 286 dL_law_281 (by decide) (fun c281 => ?_) (fun c281 => absurd (rfl) c281)
    refine fx_iload dL_law_286 rfl ?_
    refine fx_if_ne 303 dL_law_288 (by decide) (fun c288 => absurd (rfl) c288) (fun c288 => ?_)
    refine fx_aloadn dL_law_291 rfl ?_
    refine fx_iconst (nI 0) dL_law_292 (by decide) ?_
    refine fx_lald dL_law_293 hp2 (vp_in_nI (show 0 < 1 by decide) (by decide)) ?_
    rw [show f1 (nI 0).toNatClampNeg = f1 0 from rfl, hf1]
    refine fx_iload dL_law_294 rfl ?_
    refine fx_i2l dL_law_296 ?_
    refine fx_lcmp dL_law_297 ?_
    refine fx_if_eq 303 dL_law_298 (by decide) (fun c298 => ?_) (fun c298 => absurd (lcmp0 _) c298)
    refine fx_goto 506 dL_law_303 (by decide) ?_
    exact FIN _ _ _ _ _ _ _ _ _ _ _ _ _ _ (li.r C1 hr1 hc1 hp1 (R1.npo hp1) R2 k2).1 (by omega) (by omega) (by omega) ⟨rfl, rfl, rfl, rfl, rfl, trivial⟩
theorem w_parameter {g : fx_G} {h : fx_H} {x dq fq eq sq m pb pf pz pt pp ph pk pc po N len E L c n : Nat} {col : Nat → Nat} {F : Nat → (Nat → Nat) × Nat × Int32} {B : Nat → Nat} {I : List sg} {T : Int64} {th : Int32} (HI : li h x dq fq eq sq m pb pf pz pt pp ph pk pc po col F N B len E I T L th) (hc4 : 4 * c + 4 ≤ g.2.2.2.2.1) (hLs : g.2.2.2.2.1 ≤ 2048) (hro : ro F N + len + 8 * (n + 1) ≤ 4096) (FIN : ∀ (h' : fx_H) (lv : List (Nat × Value)) (cu su : Nat) (col' : Nat → Nat) (F' : Nat → (Nat → Nat) × Nat × Int32) (N' : Nat) (B' : Nat → Nat) (len' E' : Nat) (I' : List sg) (T' : Int64) (L' : Nat) (th' : Int32), li h' x dq fq eq sq m pb pf pz pt pp ph pk pc po col' F' N' B' len' E' I' T' L' th' → ro F' N' + len' + 8 * n ≤ 4096 → 10 * n ≤ cu → 8208 * n + pot L' ≤ su → fx_le [(0, .ref g.2.2.2.1), (1, .ref x), (2, .ref m), (3, .ref po), (4, .int (nI (4 * c)))] lv → fx_Y g mL_law 12 268 (fun r _ => r = some (.int (nI 1))) (fun _ _ => False) 506 lv [] h' cu su) : fx_Y g mL_law 12 268 (fun r _ => r = some (.int (nI 1))) (fun _ _ => False) 306 [(0, .ref g.2.2.2.1), (1, .ref x), (2, .ref m), (3, .ref po), (4, .int (nI (4 * c)))] [] h (10 * (n + 1)) (8208 * (n + 1) + pot L) := by
  obtain ⟨C, R, hr, ⟨f0, hp⟩, hc⟩ := id HI
  have hnp := R.npo hp
  have c0 := C.1
  obtain ⟨ms9, m0⟩ := R.at
  have hN9 : N ≤ 32 := C.2.2.2.2.2.2.2.2.1
  rcases noP.or N (g.2.2.2.2.2 (4 * c + 1)) (g.2.2.2.2.2 (4 * c + 2)) (by omega) with hy | ⟨k, j, hk, hx, hj, hyy⟩
  · skip
    refine fx_aloadn dL_law_306 rfl ?_
    refine fx_aloadn dL_law_307 rfl ?_
    refine fx_iload dL_law_308 rfl ?_
    refine fx_iconst (nI 1) dL_law_310 (by decide) ?_
    refine fx_iadd dL_law_311 ?_
    rw [nI_add (4 * c) 1]
    refine fx_sld rfl dL_law_312 (vp_in_nI (show 4 * c + 1 < _ by omega) (by omega)) ?_
    rw [nI_clamp (by omega)]
    refine fx_aloadn dL_law_313 rfl ?_
    refine fx_iload dL_law_314 rfl ?_
    refine fx_iconst (nI 2) dL_law_316 (by decide) ?_
    refine fx_iadd dL_law_317 ?_
    rw [nI_add (4 * c) 2]
    refine fx_sld rfl dL_law_318 (vp_in_nI (show 4 * c + 2 < _ by omega) (by omega)) ?_
    rw [nI_clamp (by omega)]
    refine fx_aloadn dL_law_319 rfl ?_
    refine fx_callSW rfl dL_law_320 vL_parameter kkL_59 (h_parameterN C hp hc _ _ hy) rfl (by decide) (by decide) (by omega) (by omega) rfl (Nat.le_of_ble_eq_true rfl) (fun r1 h1 hk1 => ?_)
    obtain ⟨rfl, hpe, col1, C1, X1⟩ := hk1
    obtain ⟨R1, hr1, hc1⟩ := HI.c X1
    have hp1 := hpe.trans hp
    obtain ⟨ms1, m1⟩ := R1.at
    refine fx_istore dL_law_323 (by decide) ?_
    refine fx_aloadn dL_law_325 rfl ?_
    refine fx_aloadn dL_law_326 rfl ?_
    refine fx_iload dL_law_327 rfl ?_
    refine fx_iconst (nI 1) dL_law_329 (by decide) ?_
    refine fx_iadd dL_law_330 ?_
    rw [nI_add (4 * c) 1]
    refine fx_sld rfl dL_law_331 (vp_in_nI (show 4 * c + 1 < _ by omega) (by omega)) ?_
    rw [nI_clamp (by omega)]
    refine fx_aloadn dL_law_332 rfl ?_
    refine fx_iload dL_law_333 rfl ?_
    refine fx_iconst (nI 2) dL_law_335 (by decide) ?_
    refine fx_iadd dL_law_336 ?_
    rw [nI_add (4 * c) 2]
    refine fx_sld rfl dL_law_337 (vp_in_nI (show 4 * c + 2 < _ by omega) (by omega)) ?_
    rw [nI_clamp (by omega)]
    refine fx_callV dL_law_338 vX6_parameter kkL_62 rfl rfl m1 (c_rs_parameterN R1 _ _ hy) rfl (by decide) (by decide) (Nat.zero_le _) (Nat.zero_le _) rfl (Nat.le_of_ble_eq_true rfl) (fun r2 h2 hk2 => ?_)
    obtain ⟨rfl, R2, k2⟩ := hk2
    obtain ⟨ms2, m2⟩ := R2.at
    refine fx_istore dL_law_341 (by decide) ?_
    refine fx_aloadn dL_law_343 rfl ?_
    refine fx_callVp dL_law_344 vX6_thrown kkL_47 rfl rfl m2 (p_rs_thrown R2) rfl (by decide) (by decide) rfl (Nat.le_of_ble_eq_true rfl) ?_
    refine fx_iload dL_law_347 rfl ?_
    refine fx_icmp_eq 354 dL_law_349 (by decide) (fun c349 => ?_) (fun c349 => absurd (rfl) c349)
    refine fx_iload dL_law_354 rfl ?_
    refine fx_if_ne 371 dL_law_356 (by decide) (fun c356 => ?_) (fun c356 => absurd c356 (by decide))
    refine fx_goto 506 dL_law_371 (by decide) ?_
    exact FIN _ _ _ _ _ _ _ _ _ _ _ _ _ _ (li.r C1 hr1 hc1 hp1 (R1.npo hp1) R2 k2).1 (by omega) (by omega) (by omega) ⟨rfl, rfl, rfl, rfl, rfl, trivial⟩
  · skip
    refine fx_aloadn dL_law_306 rfl ?_
    refine fx_aloadn dL_law_307 rfl ?_
    refine fx_iload dL_law_308 rfl ?_
    refine fx_iconst (nI 1) dL_law_310 (by decide) ?_
    refine fx_iadd dL_law_311 ?_
    rw [nI_add (4 * c) 1]
    refine fx_sld rfl dL_law_312 (vp_in_nI (show 4 * c + 1 < _ by omega) (by omega)) ?_
    rw [nI_clamp (by omega), hx]
    refine fx_aloadn dL_law_313 rfl ?_
    refine fx_iload dL_law_314 rfl ?_
    refine fx_iconst (nI 2) dL_law_316 (by decide) ?_
    refine fx_iadd dL_law_317 ?_
    rw [nI_add (4 * c) 2]
    refine fx_sld rfl dL_law_318 (vp_in_nI (show 4 * c + 2 < _ by omega) (by omega)) ?_
    rw [nI_clamp (by omega), hyy]
    refine fx_aloadn dL_law_319 rfl ?_
    refine fx_callSW rfl dL_law_320 vL_parameter kkL_59 (h_parameterY C hp hc k j hk hj) rfl (by decide) (by decide) (by omega) (by omega) rfl (Nat.le_of_ble_eq_true rfl) (fun r1 h1 hk1 => ?_)
    obtain ⟨rfl, ⟨f1, hp1, hf1⟩, col1, C1, X1⟩ := hk1
    obtain ⟨R1, hr1, hc1⟩ := HI.c X1
    obtain ⟨ms1, m1⟩ := R1.at
    refine fx_istore dL_law_323 (by decide) ?_
    refine fx_aloadn dL_law_325 rfl ?_
    refine fx_aloadn dL_law_326 rfl ?_
    refine fx_iload dL_law_327 rfl ?_
    refine fx_iconst (nI 1) dL_law_329 (by decide) ?_
    refine fx_iadd dL_law_330 ?_
    rw [nI_add (4 * c) 1]
    refine fx_sld rfl dL_law_331 (vp_in_nI (show 4 * c + 1 < _ by omega) (by omega)) ?_
    rw [nI_clamp (by omega), hx]
    refine fx_aloadn dL_law_332 rfl ?_
    refine fx_iload dL_law_333 rfl ?_
    refine fx_iconst (nI 2) dL_law_335 (by decide) ?_
    refine fx_iadd dL_law_336 ?_
    rw [nI_add (4 * c) 2]
    refine fx_sld rfl dL_law_337 (vp_in_nI (show 4 * c + 2 < _ by omega) (by omega)) ?_
    rw [nI_clamp (by omega), hyy]
    refine fx_callV dL_law_338 vX6_parameter kkL_62 rfl rfl m1 (c_rs_parameterY R1 k j hk hj) rfl (by decide) (by decide) (Nat.zero_le _) (Nat.zero_le _) rfl (Nat.le_of_ble_eq_true rfl) (fun r2 h2 hk2 => ?_)
    obtain ⟨rfl, R2, k2⟩ := hk2
    obtain ⟨ms2, m2⟩ := R2.at
    have hp2 := (li.r C1 hr1 hc1 hp1 (R1.npo hp1) R2 k2).2
    refine fx_istore dL_law_341 (by decide) ?_
    refine fx_aloadn dL_law_343 rfl ?_
    refine fx_callVp dL_law_344 vX6_thrown kkL_47 rfl rfl m2 (p_rs_thrown R2) rfl (by decide) (by decide) rfl (Nat.le_of_ble_eq_true rfl) ?_
    refine fx_iload dL_law_347 rfl ?_
    refine fx_icmp_eq 354 dL_law_349 (by decide) (fun c349 => ?_) (fun c349 => absurd (rfl) c349)
    refine fx_iload dL_law_354 rfl ?_
    refine fx_if_ne 371 dL_law_356 (by decide) (fun c356 => absurd (rfl) c356) (fun c356 => ?_)
    refine fx_aloadn dL_law_359 rfl ?_
    refine fx_iconst (nI 0) dL_law_360 (by decide) ?_
    refine fx_lald dL_law_361 hp2 (vp_in_nI (show 0 < 1 by decide) (by decide)) ?_
    rw [show f1 (nI 0).toNatClampNeg = f1 0 from rfl, hf1]
    refine fx_iload dL_law_362 rfl ?_
    refine fx_i2l dL_law_364 ?_
    refine fx_lcmp dL_law_365 ?_
    refine fx_if_eq 371 dL_law_366 (by decide) (fun c366 => ?_) (fun c366 => absurd (lcmp0 _) c366)
    refine fx_goto 506 dL_law_371 (by decide) ?_
    exact FIN _ _ _ _ _ _ _ _ _ _ _ _ _ _ (li.r C1 hr1 hc1 hp1 (R1.npo hp1) R2 k2).1 (by omega) (by omega) (by omega) ⟨rfl, rfl, rfl, rfl, rfl, trivial⟩
theorem w_set {g : fx_G} {h : fx_H} {x dq fq eq sq m pb pf pz pt pp ph pk pc po N len E L c n : Nat} {col : Nat → Nat} {F : Nat → (Nat → Nat) × Nat × Int32} {B : Nat → Nat} {I : List sg} {T : Int64} {th : Int32} (HI : li h x dq fq eq sq m pb pf pz pt pp ph pk pc po col F N B len E I T L th) (hc4 : 4 * c + 4 ≤ g.2.2.2.2.1) (hLs : g.2.2.2.2.1 ≤ 2048) (hro : ro F N + len + 8 * (n + 1) ≤ 4096) (FIN : ∀ (h' : fx_H) (lv : List (Nat × Value)) (cu su : Nat) (col' : Nat → Nat) (F' : Nat → (Nat → Nat) × Nat × Int32) (N' : Nat) (B' : Nat → Nat) (len' E' : Nat) (I' : List sg) (T' : Int64) (L' : Nat) (th' : Int32), li h' x dq fq eq sq m pb pf pz pt pp ph pk pc po col' F' N' B' len' E' I' T' L' th' → ro F' N' + len' + 8 * n ≤ 4096 → 10 * n ≤ cu → 8208 * n + pot L' ≤ su → fx_le [(0, .ref g.2.2.2.1), (1, .ref x), (2, .ref m), (3, .ref po), (4, .int (nI (4 * c)))] lv → fx_Y g mL_law 12 268 (fun r _ => r = some (.int (nI 1))) (fun _ _ => False) 506 lv [] h' cu su) : fx_Y g mL_law 12 268 (fun r _ => r = some (.int (nI 1))) (fun _ _ => False) 374 [(0, .ref g.2.2.2.1), (1, .ref x), (2, .ref m), (3, .ref po), (4, .int (nI (4 * c)))] [] h (10 * (n + 1)) (8208 * (n + 1) + pot L) := by
  obtain ⟨C, R, hr, ⟨f0, hp⟩, hc⟩ := id HI
  have hnp := R.npo hp
  have c0 := C.1
  obtain ⟨ms9, m0⟩ := R.at
  have hBD : (∀ i, by_ B len i < 256) ∧ ∀ j, j < len → B j < 256 := by
    obtain ⟨pb9, cap9, D9, -⟩ := C.2.2.1
    refine ⟨D9.by_lt, fun j hj => ?_⟩
    have := D9.by_lt j
    unfold by_ at this
    rw [if_pos hj] at this
    exact this
  have hN9 : N ≤ 32 := C.2.2.2.2.2.2.2.2.1
  rcases noF.or N (g.2.2.2.2.2 (4 * c + 1)) (by omega) with hy | ⟨k, hk, hx⟩
  · skip
    refine fx_aloadn dL_law_374 rfl ?_
    refine fx_aloadn dL_law_375 rfl ?_
    refine fx_iload dL_law_376 rfl ?_
    refine fx_iconst (nI 1) dL_law_378 (by decide) ?_
    refine fx_iadd dL_law_379 ?_
    rw [nI_add (4 * c) 1]
    refine fx_sld rfl dL_law_380 (vp_in_nI (show 4 * c + 1 < _ by omega) (by omega)) ?_
    rw [nI_clamp (by omega)]
    refine fx_aloadn dL_law_381 rfl ?_
    refine fx_callSW rfl dL_law_382 vL_set kkL_63 (h_setN C hp hc _ hy) rfl (by decide) (by decide) (by omega) (by omega) rfl (Nat.le_of_ble_eq_true rfl) (fun r1 h1 hk1 => ?_)
    obtain ⟨rfl, hpe, col1, C1, X1⟩ := hk1
    obtain ⟨R1, hr1, hc1⟩ := HI.c X1
    have hp1 := hpe.trans hp
    obtain ⟨ms1, m1⟩ := R1.at
    refine fx_istore dL_law_385 (by decide) ?_
    refine fx_aloadn dL_law_387 rfl ?_
    refine fx_aloadn dL_law_388 rfl ?_
    refine fx_iload dL_law_389 rfl ?_
    refine fx_iconst (nI 1) dL_law_391 (by decide) ?_
    refine fx_iadd dL_law_392 ?_
    rw [nI_add (4 * c) 1]
    refine fx_sld rfl dL_law_393 (vp_in_nI (show 4 * c + 1 < _ by omega) (by omega)) ?_
    rw [nI_clamp (by omega)]
    refine fx_callV dL_law_394 vX6_set kkL_65 rfl rfl m1 (c_rs_setN R1 _ hy) rfl (by decide) (by decide) (Nat.zero_le _) (Nat.zero_le _) rfl (Nat.le_of_ble_eq_true rfl) (fun r2 h2 hk2 => ?_)
    obtain ⟨rfl, R2, k2⟩ := hk2
    obtain ⟨ms2, m2⟩ := R2.at
    refine fx_istore dL_law_397 (by decide) ?_
    refine fx_aloadn dL_law_399 rfl ?_
    refine fx_callVp dL_law_400 vX6_thrown kkL_47 rfl rfl m2 (p_rs_thrown R2) rfl (by decide) (by decide) rfl (Nat.le_of_ble_eq_true rfl) ?_
    refine fx_iload dL_law_403 rfl ?_
    refine fx_icmp_eq 410 dL_law_405 (by decide) (fun c405 => ?_) (fun c405 => absurd (rfl) c405)
    refine fx_iload dL_law_410 rfl ?_
    refine fx_if_ne 427 dL_law_412 (by decide) (fun c412 => ?_) (fun c412 => absurd c412 (by decide))
    refine fx_goto 506 dL_law_427 (by decide) ?_
    exact FIN _ _ _ _ _ _ _ _ _ _ _ _ _ _ (li.r C1 hr1 hc1 hp1 (R1.npo hp1) R2 k2).1 (by omega) (by omega) (by omega) ⟨rfl, rfl, rfl, rfl, rfl, trivial⟩
  · skip
    refine fx_aloadn dL_law_374 rfl ?_
    refine fx_aloadn dL_law_375 rfl ?_
    refine fx_iload dL_law_376 rfl ?_
    refine fx_iconst (nI 1) dL_law_378 (by decide) ?_
    refine fx_iadd dL_law_379 ?_
    rw [nI_add (4 * c) 1]
    refine fx_sld rfl dL_law_380 (vp_in_nI (show 4 * c + 1 < _ by omega) (by omega)) ?_
    rw [nI_clamp (by omega), hx]
    refine fx_aloadn dL_law_381 rfl ?_
    refine fx_callSW rfl dL_law_382 vL_set kkL_63 (h_setY C hp hc k hk hBD.2) rfl (by decide) (by decide) (by omega) (by omega) rfl (Nat.le_of_ble_eq_true rfl) (fun r1 h1 hk1 => ?_)
    rcases hk1 with ⟨hok, hk1⟩ | ⟨hok, hL1, hk1⟩ | ⟨hok, LL, hL1, hk1⟩
    · obtain ⟨rfl, hpe, col1, C1, X1⟩ := hk1
      obtain ⟨R1, hr1, hc1⟩ := HI.c X1
      have hp1 := hpe.trans hp
      obtain ⟨ms1, m1⟩ := R1.at
      refine fx_istore dL_law_385 (by decide) ?_
      refine fx_aloadn dL_law_387 rfl ?_
      refine fx_aloadn dL_law_388 rfl ?_
      refine fx_iload dL_law_389 rfl ?_
      refine fx_iconst (nI 1) dL_law_391 (by decide) ?_
      refine fx_iadd dL_law_392 ?_
      rw [nI_add (4 * c) 1]
      refine fx_sld rfl dL_law_393 (vp_in_nI (show 4 * c + 1 < _ by omega) (by omega)) ?_
      rw [nI_clamp (by omega), hx]
      refine fx_callV dL_law_394 vX6_set kkL_65 rfl rfl m1 (c_rs_setY R1 k hk hBD.2) rfl (by decide) (by decide) (Nat.zero_le _) (Nat.zero_le _) rfl (Nat.le_of_ble_eq_true rfl) (fun r2 h2 hk2 => ?_)
      obtain ⟨hr2, k2⟩ := hk2
      rcases hr2 with ⟨hok9, rfl, R2⟩ | ⟨hok9, -⟩ | ⟨hok9, -⟩
      · obtain ⟨ms2, m2⟩ := R2.at
        have hp2 := (li.r C1 hr1 hc1 hp1 (R1.npo hp1) R2 k2).2
        refine fx_istore dL_law_397 (by decide) ?_
        refine fx_aloadn dL_law_399 rfl ?_
        refine fx_callVp dL_law_400 vX6_thrown kkL_47 rfl rfl m2 (p_rs_thrown R2) rfl (by decide) (by decide) rfl (Nat.le_of_ble_eq_true rfl) ?_
        refine fx_iload dL_law_403 rfl ?_
        refine fx_icmp_eq 410 dL_law_405 (by decide) (fun c405 => ?_) (fun c405 => absurd (rfl) c405)
        refine fx_iload dL_law_410 rfl ?_
        refine fx_if_ne 427 dL_law_412 (by decide) (fun c412 => ?_) (fun c412 => absurd c412 (by decide))
        refine fx_goto 506 dL_law_427 (by decide) ?_
        exact FIN _ _ _ _ _ _ _ _ _ _ _ _ _ _ (li.r C1 hr1 hc1 hp1 (R1.npo hp1) R2 k2).1 (by omega) (by omega) (by omega) ⟨rfl, rfl, rfl, rfl, rfl, trivial⟩
      · exact absurd hok9 hok
      · exact absurd hok9 hok
    · obtain ⟨rfl, hpe, col1, C1, X1⟩ := hk1
      obtain ⟨R1, hr1, hc1⟩ := HI.c X1
      have hp1 := hpe.trans hp
      obtain ⟨ms1, m1⟩ := R1.at
      refine fx_istore dL_law_385 (by decide) ?_
      refine fx_aloadn dL_law_387 rfl ?_
      refine fx_aloadn dL_law_388 rfl ?_
      refine fx_iload dL_law_389 rfl ?_
      refine fx_iconst (nI 1) dL_law_391 (by decide) ?_
      refine fx_iadd dL_law_392 ?_
      rw [nI_add (4 * c) 1]
      refine fx_sld rfl dL_law_393 (vp_in_nI (show 4 * c + 1 < _ by omega) (by omega)) ?_
      rw [nI_clamp (by omega), hx]
      refine fx_callV dL_law_394 vX6_set kkL_65 rfl rfl m1 (c_rs_setY R1 k hk hBD.2) rfl (by decide) (by decide) (Nat.zero_le _) (Nat.zero_le _) rfl (Nat.le_of_ble_eq_true rfl) (fun r2 h2 hk2 => ?_)
      obtain ⟨hr2, k2⟩ := hk2
      rcases hr2 with ⟨hok9, -⟩ | ⟨hok9, hL9, rfl, R2⟩ | ⟨hok9, LL9, hL9, -⟩
      · exact absurd hok hok9
      · obtain ⟨ms2, m2⟩ := R2.at
        have hp2 := (li.r C1 hr1 hc1 hp1 (R1.npo hp1) R2 k2).2
        refine fx_istore dL_law_397 (by decide) ?_
        refine fx_aloadn dL_law_399 rfl ?_
        refine fx_callVp dL_law_400 vX6_thrown kkL_47 rfl rfl m2 (p_rs_thrown R2) rfl (by decide) (by decide) rfl (Nat.le_of_ble_eq_true rfl) ?_
        refine fx_iload dL_law_403 rfl ?_
        refine fx_icmp_eq 410 dL_law_405 (by decide) (fun c405 => ?_) (fun c405 => absurd (rfl) c405)
        refine fx_iload dL_law_410 rfl ?_
        refine fx_if_ne 427 dL_law_412 (by decide) (fun c412 => ?_) (fun c412 => absurd c412 (by decide))
        refine fx_goto 506 dL_law_427 (by decide) ?_
        exact FIN _ _ _ _ _ _ _ _ _ _ _ _ _ _ (li.r C1 hr1 hc1 hp1 (R1.npo hp1) R2 k2).1 (by omega) (by omega) (by omega) ⟨rfl, rfl, rfl, rfl, rfl, trivial⟩
      · rw [hL1] at hL9; cases hL9
    · obtain ⟨rfl, ⟨f1, hp1, hf1⟩, col1, C1, X1⟩ := hk1
      obtain ⟨R1, hr1, hc1⟩ := HI.c X1
      obtain ⟨ms1, m1⟩ := R1.at
      refine fx_istore dL_law_385 (by decide) ?_
      refine fx_aloadn dL_law_387 rfl ?_
      refine fx_aloadn dL_law_388 rfl ?_
      refine fx_iload dL_law_389 rfl ?_
      refine fx_iconst (nI 1) dL_law_391 (by decide) ?_
      refine fx_iadd dL_law_392 ?_
      rw [nI_add (4 * c) 1]
      refine fx_sld rfl dL_law_393 (vp_in_nI (show 4 * c + 1 < _ by omega) (by omega)) ?_
      rw [nI_clamp (by omega), hx]
      refine fx_callV dL_law_394 vX6_set kkL_65 rfl rfl m1 (c_rs_setY R1 k hk hBD.2) rfl (by decide) (by decide) (Nat.zero_le _) (Nat.zero_le _) rfl (Nat.le_of_ble_eq_true rfl) (fun r2 h2 hk2 => ?_)
      obtain ⟨hr2, k2⟩ := hk2
      rcases hr2 with ⟨hok9, -⟩ | ⟨hok9, hL9, -⟩ | ⟨hok9, LL9, hL9, hl9, rfl, R2⟩
      · exact absurd hok hok9
      · rw [hL1] at hL9; cases hL9
      · rw [hL1] at hL9
        cases hL9
        obtain ⟨ms2, m2⟩ := R2.at
        have hp2 := (li.r C1 hr1 hc1 hp1 (R1.npo hp1) R2 k2).2
        refine fx_istore dL_law_397 (by decide) ?_
        refine fx_aloadn dL_law_399 rfl ?_
        refine fx_callVp dL_law_400 vX6_thrown kkL_47 rfl rfl m2 (p_rs_thrown R2) rfl (by decide) (by decide) rfl (Nat.le_of_ble_eq_true rfl) ?_
        refine fx_iload dL_law_403 rfl ?_
        refine fx_icmp_eq 410 dL_law_405 (by decide) (fun c405 => ?_) (fun c405 => absurd (rfl) c405)
        refine fx_iload dL_law_410 rfl ?_
        refine fx_if_ne 427 dL_law_412 (by decide) (fun c412 => absurd (rfl) c412) (fun c412 => ?_)
        refine fx_aloadn dL_law_415 rfl ?_
        refine fx_iconst (nI 0) dL_law_416 (by decide) ?_
        refine fx_lald dL_law_417 hp2 (vp_in_nI (show 0 < 1 by decide) (by decide)) ?_
        rw [show f1 (nI 0).toNatClampNeg = f1 0 from rfl, hf1]
        refine fx_iload dL_law_418 rfl ?_
        refine fx_i2l dL_law_420 ?_
        refine fx_lcmp dL_law_421 ?_
        refine fx_if_eq 427 dL_law_422 (by decide) (fun c422 => ?_) (fun c422 => absurd (lcmp0 _) c422)
        refine fx_goto 506 dL_law_427 (by decide) ?_
        exact FIN _ _ _ _ _ _ _ _ _ _ _ _ _ _ (li.r C1 hr1 hc1 hp1 (R1.npo hp1) R2 k2).1 (by omega) (by omega) (by omega) ⟨rfl, rfl, rfl, rfl, rfl, trivial⟩
