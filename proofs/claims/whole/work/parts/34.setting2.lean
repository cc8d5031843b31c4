/-! FontDesk$Setting: ligatures, widths, the run -/
def mz_l (o : Nat) (r : Int32) (P : List sg) (x y : sg) (A : List sg) : List sg × sg × List sg :=
  if o = 0 then (P, (1, r), A)
  else if o = 1 then (P, (1, r), y :: A)
  else if o = 5 then (P ++ [(1, r)], y, A)
  else if o = 2 then (P, x, (1, r) :: A)
  else if o = 6 then (P ++ [x], (1, r), A)
  else if o = 3 then (P, x, (1, r) :: y :: A)
  else if o = 7 then (P ++ [x], (1, r), y :: A)
  else (P ++ [x, (1, r)], y, A)
theorem sw.to {h : fx_H} {a pik pic pak pac pr pr' : Nat} {I I' A : List sg} {x : sg} {tot : Int64} (E : sw h a pik pic pak pac I tot x A pr) (hI : I = I') (hp : pr = pr') : sw h a pik pic pak pac I' tot x A pr' := by
  subst hI
  subst hp
  exact E
theorem sw.len {h : fx_H} {a pik pic pak pac pr : Nat} {I A : List sg} {x : sg} {tot : Int64} (E : sw h a pik pic pak pac I tot x A pr) : True := trivial

theorem c_se_lig0 {g : fx_G} {h : fx_H} {a pik pic pak pac : Nat} {P A : List sg} {x y : sg} {tot : Int64} (E : sw h a pik pic pak pac (nf P) tot x (y :: A) (P.length + 1 + (y :: A).length)) (hx : x.1 < 4) (hsz : P.length + 1 + (y :: A).length ≤ 1000) (r : Int32) : fx_Met g mX4_ligature 3 62 [.ref a, .int (nI 0), .int r] h 0 0 (fun q h' => q = none ∧ ((mz_n (mz_l 0 r P x y A) ≤ 1000 ∧ sw h' a pik pic pak pac (nf (mz_l 0 r P x y A).1) tot (mz_l 0 r P x y A).2.1 (mz_l 0 r P x y A).2.2 (mz_n (mz_l 0 r P x y A))) ∨ (1000 < mz_n (mz_l 0 r P x y A) ∧ ∃ (I2 : List sg) (x2 : sg) (A2 : List sg) (pr2 : Nat), 1000 < pr2 ∧ pr2 ≤ 1001 ∧ A2.length ≤ 1001 ∧ sw h' a pik pic pak pac I2 tot x2 A2 pr2)) ∧ kp (sS a pik pic pak pac) h h') := by
  have hyA : (y :: A).length = A.length + 1 := rfl
  have hnP := nf_le P
  refine fx_Met.of rfl (Nat.le_of_ble_eq_true rfl) ?_
  refine fx_iloadn dX4_ligature_0 rfl ?_
  refine fx_tswIn 43 44 dX4_ligature_1 (by decide) (by decide) rfl (by decide) ?_
  by_cases hov : True
  · skip
    refine fx_aloadn dX4_ligature_44 rfl ?_
    obtain ⟨fs1, at1⟩ := E.at
    refine fx_callV dX4_ligature_45 vX4_pop kkX4_109 rfl rfl at1 (c_se_pop E (by omega)) rfl (by decide) (by decide) (Nat.zero_le _) (Nat.zero_le _) rfl (Nat.le_of_ble_eq_true rfl) (fun r1 h1 hk1 => ?_)
    obtain ⟨rfl, E1, k1⟩ := hk1
    refine fx_aloadn dX4_ligature_48 rfl ?_
    refine fx_dup dX4_ligature_49 rfl ?_
    obtain ⟨fk9, fc9, gk9, gc9, e9, -⟩ := id E1
    refine fx_get dX4_ligature_50 ffX4_43 e9.1 rfl ?_
    refine fx_iconst (nI 1) dX4_ligature_53 (by decide) ?_
    refine fx_isub dX4_ligature_54 ?_
    rw [pk_sub (by omega)]
    obtain ⟨fk, fc, gk, gc, e, hI, hA⟩ := id E1
    refine fx_putV dX4_ligature_55 ffX4_43 e.1 rfl rfl (Nat.le_of_ble_eq_true rfl) (fun h2 q2 o2 => ?_)
    have E2 : sw h2 a pik pic pak pac (nf P) tot y A (P.length + 1 + (y :: A).length - 1) := ⟨fk, fc, gk, gc, e.obj q2 o2, hI, hA⟩
    have k2 := kp.put k1 o2 (Or.inl (Or.inl rfl))
    refine fx_aloadn dX4_ligature_58 rfl ?_
    refine fx_iloadn dX4_ligature_59 rfl ?_
    obtain ⟨fs3, at3⟩ := E2.at
    refine fx_callV dX4_ligature_60 vX4_becomeLigature kkX4_112 rfl rfl at3 (c_se_become E2 r) rfl (by decide) (by decide) (Nat.zero_le _) (Nat.zero_le _) rfl (Nat.le_of_ble_eq_true rfl) (fun r3 h3 hk3 => ?_)
    obtain ⟨rfl, E3, k3⟩ := hk3
    refine fx_goto 109 dX4_ligature_63 (by decide) ?_
    refine fx_iloadn dX4_ligature_109 rfl ?_
    refine fx_bipush (nI 11) dX4_ligature_110 (by decide) ?_
    refine fx_icmp_ne 119 dX4_ligature_112 (by decide) (fun c112 => ?_) (fun c112 => absurd c112 (by decide))
    refine fx_iloadn dX4_ligature_119 rfl ?_
    refine fx_iconst (nI 5) dX4_ligature_120 (by decide) ?_
    refine fx_icmp_lt 128 dX4_ligature_121 (by decide) (fun c121 => ?_) (fun c121 => absurd (by decide) c121)
    refine fx_iconst (nI 0) dX4_ligature_128 (by decide) ?_
    refine fx_istoren dX4_ligature_129 (by decide) ?_
    refine fx_iconst (nI 0) dX4_ligature_130 (by decide) ?_
    refine fx_istore dX4_ligature_131 (by decide) ?_
    refine fx_iload dX4_ligature_133 rfl ?_
    refine fx_iloadn dX4_ligature_135 rfl ?_
    refine fx_icmp_ge 159 dX4_ligature_136 (by decide) (fun c136 => ?_) (fun c136 => absurd (by decide) c136)
    refine fx_vret dX4_ligature_159 rfl ?_
    exact ⟨rfl, Or.inl ⟨by have hmn : mz_n (mz_l 0 r P x y A) = P.length + 1 + A.length := rfl; omega, E3.to rfl (by have hmn : mz_n (mz_l 0 r P x y A) = P.length + 1 + A.length := rfl; omega)⟩, (k2.tr k3 (fun _ z _ => z))⟩
  · exact absurd trivial hov
theorem c_se_lig1 {g : fx_G} {h : fx_H} {a pik pic pak pac : Nat} {P A : List sg} {x y : sg} {tot : Int64} (E : sw h a pik pic pak pac (nf P) tot x (y :: A) (P.length + 1 + (y :: A).length)) (hx : x.1 < 4) (hsz : P.length + 1 + (y :: A).length ≤ 1000) (r : Int32) : fx_Met g mX4_ligature 3 62 [.ref a, .int (nI 1), .int r] h 0 0 (fun q h' => q = none ∧ ((mz_n (mz_l 1 r P x y A) ≤ 1000 ∧ sw h' a pik pic pak pac (nf (mz_l 1 r P x y A).1) tot (mz_l 1 r P x y A).2.1 (mz_l 1 r P x y A).2.2 (mz_n (mz_l 1 r P x y A))) ∨ (1000 < mz_n (mz_l 1 r P x y A) ∧ ∃ (I2 : List sg) (x2 : sg) (A2 : List sg) (pr2 : Nat), 1000 < pr2 ∧ pr2 ≤ 1001 ∧ A2.length ≤ 1001 ∧ sw h' a pik pic pak pac I2 tot x2 A2 pr2)) ∧ kp (sS a pik pic pak pac) h h') := by
  have hyA : (y :: A).length = A.length + 1 := rfl
  have hnP := nf_le P
  refine fx_Met.of rfl (Nat.le_of_ble_eq_true rfl) ?_
  refine fx_iloadn dX4_ligature_0 rfl ?_
  refine fx_tswIn 65 66 dX4_ligature_1 (by decide) (by decide) rfl (by decide) ?_
  by_cases hov : True
  · skip
    refine fx_aloadn dX4_ligature_66 rfl ?_
    refine fx_iloadn dX4_ligature_67 rfl ?_
    obtain ⟨fs1, at1⟩ := E.at
    refine fx_callV dX4_ligature_68 vX4_becomeLigature kkX4_112 rfl rfl at1 (c_se_become E r) rfl (by decide) (by decide) (Nat.zero_le _) (Nat.zero_le _) rfl (Nat.le_of_ble_eq_true rfl) (fun r1 h1 hk1 => ?_)
    obtain ⟨rfl, E1, k1⟩ := hk1
    refine fx_goto 109 dX4_ligature_71 (by decide) ?_
    refine fx_iloadn dX4_ligature_109 rfl ?_
    refine fx_bipush (nI 11) dX4_ligature_110 (by decide) ?_
    refine fx_icmp_ne 119 dX4_ligature_112 (by decide) (fun c112 => ?_) (fun c112 => absurd c112 (by decide))
    refine fx_iloadn dX4_ligature_119 rfl ?_
    refine fx_iconst (nI 5) dX4_ligature_120 (by decide) ?_
    refine fx_icmp_lt 128 dX4_ligature_121 (by decide) (fun c121 => ?_) (fun c121 => absurd (by decide) c121)
    refine fx_iconst (nI 0) dX4_ligature_128 (by decide) ?_
    refine fx_istoren dX4_ligature_129 (by decide) ?_
    refine fx_iconst (nI 0) dX4_ligature_130 (by decide) ?_
    refine fx_istore dX4_ligature_131 (by decide) ?_
    refine fx_iload dX4_ligature_133 rfl ?_
    refine fx_iloadn dX4_ligature_135 rfl ?_
    refine fx_icmp_ge 159 dX4_ligature_136 (by decide) (fun c136 => ?_) (fun c136 => absurd (by decide) c136)
    refine fx_vret dX4_ligature_159 rfl ?_
    exact ⟨rfl, Or.inl ⟨by have hmn : mz_n (mz_l 1 r P x y A) = P.length + 1 + (A.length + 1) := rfl; omega, E1.to rfl (by have hmn : mz_n (mz_l 1 r P x y A) = P.length + 1 + (A.length + 1) := rfl; omega)⟩, k1⟩
  · exact absurd trivial hov
theorem c_se_lig2 {g : fx_G} {h : fx_H} {a pik pic pak pac : Nat} {P A : List sg} {x y : sg} {tot : Int64} (E : sw h a pik pic pak pac (nf P) tot x (y :: A) (P.length + 1 + (y :: A).length)) (hx : x.1 < 4) (hsz : P.length + 1 + (y :: A).length ≤ 1000) (r : Int32) : fx_Met g mX4_ligature 3 62 [.ref a, .int (nI 2), .int r] h 0 0 (fun q h' => q = none ∧ ((mz_n (mz_l 2 r P x y A) ≤ 1000 ∧ sw h' a pik pic pak pac (nf (mz_l 2 r P x y A).1) tot (mz_l 2 r P x y A).2.1 (mz_l 2 r P x y A).2.2 (mz_n (mz_l 2 r P x y A))) ∨ (1000 < mz_n (mz_l 2 r P x y A) ∧ ∃ (I2 : List sg) (x2 : sg) (A2 : List sg) (pr2 : Nat), 1000 < pr2 ∧ pr2 ≤ 1001 ∧ A2.length ≤ 1001 ∧ sw h' a pik pic pak pac I2 tot x2 A2 pr2)) ∧ kp (sS a pik pic pak pac) h h') := by
  have hyA : (y :: A).length = A.length + 1 := rfl
  have hnP := nf_le P
  refine fx_Met.of rfl (Nat.le_of_ble_eq_true rfl) ?_
  refine fx_iloadn dX4_ligature_0 rfl ?_
  refine fx_tswIn 73 74 dX4_ligature_1 (by decide) (by decide) rfl (by decide) ?_
  by_cases hov : True
  · skip
    refine fx_aloadn dX4_ligature_74 rfl ?_
    refine fx_dup dX4_ligature_75 rfl ?_
    obtain ⟨fk, fc, gk, gc, e, hI, hA⟩ := id E
    refine fx_get dX4_ligature_76 ffX4_40 e.1 rfl ?_
    refine fx_iconst (nI 1) dX4_ligature_79 (by decide) ?_
    refine fx_isub dX4_ligature_80 ?_
    rw [pk_sub (by omega)]
    refine fx_putV dX4_ligature_81 ffX4_40 e.1 rfl rfl (Nat.le_of_ble_eq_true rfl) (fun h1 q1 o1 => ?_)
    rw [List.reverse_cons] at hA
    have E1 : sw h1 a pik pic pak pac (nf P) tot x A (P.length + 1 + (y :: A).length) := ⟨fk, fc, gk, gc, e.obj q1 o1, hI, hA.pop.1⟩
    have k1 := kp.put (kp.rf (S := sS a pik pic pak pac)) o1 (Or.inl (Or.inl rfl))
    refine fx_aloadn dX4_ligature_84 rfl ?_
    refine fx_iconst (nI 1) dX4_ligature_85 (by decide) ?_
    refine fx_iloadn dX4_ligature_86 rfl ?_
    obtain ⟨fs2, at2⟩ := E1.at
    refine fx_callV dX4_ligature_87 vX4_push kkX4_58 rfl rfl at2 (c_se_push E1 (1, r) (by omega)) rfl (by decide) (by decide) (Nat.zero_le _) (Nat.zero_le _) rfl (Nat.le_of_ble_eq_true rfl) (fun r2 h2 hk2 => ?_)
    obtain ⟨rfl, E2, k2⟩ := hk2
    refine fx_goto 109 dX4_ligature_90 (by decide) ?_
    refine fx_iloadn dX4_ligature_109 rfl ?_
    refine fx_bipush (nI 11) dX4_ligature_110 (by decide) ?_
    refine fx_icmp_ne 119 dX4_ligature_112 (by decide) (fun c112 => ?_) (fun c112 => absurd c112 (by decide))
    refine fx_iloadn dX4_ligature_119 rfl ?_
    refine fx_iconst (nI 5) dX4_ligature_120 (by decide) ?_
    refine fx_icmp_lt 128 dX4_ligature_121 (by decide) (fun c121 => ?_) (fun c121 => absurd (by decide) c121)
    refine fx_iconst (nI 0) dX4_ligature_128 (by decide) ?_
    refine fx_istoren dX4_ligature_129 (by decide) ?_
    refine fx_iconst (nI 0) dX4_ligature_130 (by decide) ?_
    refine fx_istore dX4_ligature_131 (by decide) ?_
    refine fx_iload dX4_ligature_133 rfl ?_
    refine fx_iloadn dX4_ligature_135 rfl ?_
    refine fx_icmp_ge 159 dX4_ligature_136 (by decide) (fun c136 => ?_) (fun c136 => absurd (by decide) c136)
    refine fx_vret dX4_ligature_159 rfl ?_
    exact ⟨rfl, Or.inl ⟨by have hmn : mz_n (mz_l 2 r P x y A) = P.length + 1 + (A.length + 1) := rfl; omega, E2.to rfl (by have hmn : mz_n (mz_l 2 r P x y A) = P.length + 1 + (A.length + 1) := rfl; omega)⟩, (k1.tr k2 (fun _ z _ => z))⟩
  · exact absurd trivial hov
theorem c_se_lig3 {g : fx_G} {h : fx_H} {a pik pic pak pac : Nat} {P A : List sg} {x y : sg} {tot : Int64} (E : sw h a pik pic pak pac (nf P) tot x (y :: A) (P.length + 1 + (y :: A).length)) (hx : x.1 < 4) (hsz : P.length + 1 + (y :: A).length ≤ 1000) (r : Int32) : fx_Met g mX4_ligature 3 62 [.ref a, .int (nI 3), .int r] h 0 0 (fun q h' => q = none ∧ ((mz_n (mz_l 3 r P x y A) ≤ 1000 ∧ sw h' a pik pic pak pac (nf (mz_l 3 r P x y A).1) tot (mz_l 3 r P x y A).2.1 (mz_l 3 r P x y A).2.2 (mz_n (mz_l 3 r P x y A))) ∨ (1000 < mz_n (mz_l 3 r P x y A) ∧ ∃ (I2 : List sg) (x2 : sg) (A2 : List sg) (pr2 : Nat), 1000 < pr2 ∧ pr2 ≤ 1001 ∧ A2.length ≤ 1001 ∧ sw h' a pik pic pak pac I2 tot x2 A2 pr2)) ∧ kp (sS a pik pic pak pac) h h') := by
  have hyA : (y :: A).length = A.length + 1 := rfl
  have hnP := nf_le P
  refine fx_Met.of rfl (Nat.le_of_ble_eq_true rfl) ?_
  refine fx_iloadn dX4_ligature_0 rfl ?_
  refine fx_tswIn 92 93 dX4_ligature_1 (by decide) (by decide) rfl (by decide) ?_
  by_cases hov : P.length + 1 + (y :: A).length + 1 ≤ 1000
  · skip
    refine fx_aloadn dX4_ligature_93 rfl ?_
    refine fx_dup dX4_ligature_94 rfl ?_
    obtain ⟨fk, fc, gk, gc, e, hI, hA⟩ := id E
    refine fx_get dX4_ligature_95 ffX4_43 e.1 rfl ?_
    refine fx_iconst (nI 1) dX4_ligature_98 (by decide) ?_
    refine fx_iadd dX4_ligature_99 ?_
    rw [nI_add]
    refine fx_putV dX4_ligature_100 ffX4_43 e.1 rfl rfl (Nat.le_of_ble_eq_true rfl) (fun h1 q1 o1 => ?_)
    have E1 : sw h1 a pik pic pak pac (nf P) tot x (y :: A) (P.length + 1 + (y :: A).length + 1) := ⟨fk, fc, gk, gc, e.obj q1 o1, hI, hA⟩
    have k1 := kp.put (kp.rf (S := sS a pik pic pak pac)) o1 (Or.inl (Or.inl rfl))
    refine fx_aloadn dX4_ligature_103 rfl ?_
    refine fx_iconst (nI 1) dX4_ligature_104 (by decide) ?_
    refine fx_iloadn dX4_ligature_105 rfl ?_
    obtain ⟨fs2, at2⟩ := E1.at
    refine fx_callV dX4_ligature_106 vX4_push kkX4_58 rfl rfl at2 (c_se_push E1 (1, r) (by omega)) rfl (by decide) (by decide) (Nat.zero_le _) (Nat.zero_le _) rfl (Nat.le_of_ble_eq_true rfl) (fun r2 h2 hk2 => ?_)
    obtain ⟨rfl, E2, k2⟩ := hk2
    refine fx_iloadn dX4_ligature_109 rfl ?_
    refine fx_bipush (nI 11) dX4_ligature_110 (by decide) ?_
    refine fx_icmp_ne 119 dX4_ligature_112 (by decide) (fun c112 => ?_) (fun c112 => absurd c112 (by decide))
    refine fx_iloadn dX4_ligature_119 rfl ?_
    refine fx_iconst (nI 5) dX4_ligature_120 (by decide) ?_
    refine fx_icmp_lt 128 dX4_ligature_121 (by decide) (fun c121 => ?_) (fun c121 => absurd (by decide) c121)
    refine fx_iconst (nI 0) dX4_ligature_128 (by decide) ?_
    refine fx_istoren dX4_ligature_129 (by decide) ?_
    refine fx_iconst (nI 0) dX4_ligature_130 (by decide) ?_
    refine fx_istore dX4_ligature_131 (by decide) ?_
    refine fx_iload dX4_ligature_133 rfl ?_
    refine fx_iloadn dX4_ligature_135 rfl ?_
    refine fx_icmp_ge 159 dX4_ligature_136 (by decide) (fun c136 => ?_) (fun c136 => absurd (by decide) c136)
    refine fx_vret dX4_ligature_159 rfl ?_
    exact ⟨rfl, Or.inl ⟨by have hmn : mz_n (mz_l 3 r P x y A) = P.length + 1 + (A.length + 1 + 1) := rfl; omega, E2.to rfl (by have hmn : mz_n (mz_l 3 r P x y A) = P.length + 1 + (A.length + 1 + 1) := rfl; omega)⟩, (k1.tr k2 (fun _ z _ => z))⟩
  · skip
    refine fx_aloadn dX4_ligature_93 rfl ?_
    refine fx_dup dX4_ligature_94 rfl ?_
    obtain ⟨fk, fc, gk, gc, e, hI, hA⟩ := id E
    refine fx_get dX4_ligature_95 ffX4_43 e.1 rfl ?_
    refine fx_iconst (nI 1) dX4_ligature_98 (by decide) ?_
    refine fx_iadd dX4_ligature_99 ?_
    rw [nI_add]
    refine fx_putV dX4_ligature_100 ffX4_43 e.1 rfl rfl (Nat.le_of_ble_eq_true rfl) (fun h1 q1 o1 => ?_)
    have E1 : sw h1 a pik pic pak pac (nf P) tot x (y :: A) (P.length + 1 + (y :: A).length + 1) := ⟨fk, fc, gk, gc, e.obj q1 o1, hI, hA⟩
    have k1 := kp.put (kp.rf (S := sS a pik pic pak pac)) o1 (Or.inl (Or.inl rfl))
    refine fx_aloadn dX4_ligature_103 rfl ?_
    refine fx_iconst (nI 1) dX4_ligature_104 (by decide) ?_
    refine fx_iloadn dX4_ligature_105 rfl ?_
    obtain ⟨fs2, at2⟩ := E1.at
    refine fx_callV dX4_ligature_106 vX4_push kkX4_58 rfl rfl at2 (c_se_push E1 (1, r) (by omega)) rfl (by decide) (by decide) (Nat.zero_le _) (Nat.zero_le _) rfl (Nat.le_of_ble_eq_true rfl) (fun r2 h2 hk2 => ?_)
    obtain ⟨rfl, E2, k2⟩ := hk2
    refine fx_iloadn dX4_ligature_109 rfl ?_
    refine fx_bipush (nI 11) dX4_ligature_110 (by decide) ?_
    refine fx_icmp_ne 119 dX4_ligature_112 (by decide) (fun c112 => ?_) (fun c112 => absurd c112 (by decide))
    refine fx_iloadn dX4_ligature_119 rfl ?_
    refine fx_iconst (nI 5) dX4_ligature_120 (by decide) ?_
    refine fx_icmp_lt 128 dX4_ligature_121 (by decide) (fun c121 => ?_) (fun c121 => absurd (by decide) c121)
    refine fx_iconst (nI 0) dX4_ligature_128 (by decide) ?_
    refine fx_istoren dX4_ligature_129 (by decide) ?_
    refine fx_iconst (nI 0) dX4_ligature_130 (by decide) ?_
    refine fx_istore dX4_ligature_131 (by decide) ?_
    refine fx_iload dX4_ligature_133 rfl ?_
    refine fx_iloadn dX4_ligature_135 rfl ?_
    refine fx_icmp_ge 159 dX4_ligature_136 (by decide) (fun c136 => ?_) (fun c136 => absurd (by decide) c136)
    refine fx_vret dX4_ligature_159 rfl ?_
    exact ⟨rfl, Or.inr ⟨by have hmn : mz_n (mz_l 3 r P x y A) = P.length + 1 + (A.length + 1 + 1) := rfl; omega, _, _, _, _, (show 1000 < P.length + 1 + (y :: A).length + 1 by omega), by omega, by have : ((1, r) :: y :: A : List sg).length = A.length + 2 := rfl; have : ((1, r) :: A : List sg).length = A.length + 1 := rfl; omega, E2⟩, (k1.tr k2 (fun _ z _ => z))⟩
theorem c_se_lig5 {g : fx_G} {h : fx_H} {a pik pic pak pac : Nat} {P A : List sg} {x y : sg} {tot : Int64} (E : sw h a pik pic pak pac (nf P) tot x (y :: A) (P.length + 1 + (y :: A).length)) (hx : x.1 < 4) (hsz : P.length + 1 + (y :: A).length ≤ 1000) (r : Int32) : fx_Met g mX4_ligature 3 62 [.ref a, .int (nI 5), .int r] h 0 0 (fun q h' => q = none ∧ ((mz_n (mz_l 5 r P x y A) ≤ 1000 ∧ sw h' a pik pic pak pac (nf (mz_l 5 r P x y A).1) tot (mz_l 5 r P x y A).2.1 (mz_l 5 r P x y A).2.2 (mz_n (mz_l 5 r P x y A))) ∨ (1000 < mz_n (mz_l 5 r P x y A) ∧ ∃ (I2 : List sg) (x2 : sg) (A2 : List sg) (pr2 : Nat), 1000 < pr2 ∧ pr2 ≤ 1001 ∧ A2.length ≤ 1001 ∧ sw h' a pik pic pak pac I2 tot x2 A2 pr2)) ∧ kp (sS a pik pic pak pac) h h') := by
  have hyA : (y :: A).length = A.length + 1 := rfl
  have hnP := nf_le P
  refine fx_Met.of rfl (Nat.le_of_ble_eq_true rfl) ?_
  refine fx_iloadn dX4_ligature_0 rfl ?_
  refine fx_tswIn 65 66 dX4_ligature_1 (by decide) (by decide) rfl (by decide) ?_
  by_cases hov : True
  · skip
    refine fx_aloadn dX4_ligature_66 rfl ?_
    refine fx_iloadn dX4_ligature_67 rfl ?_
    obtain ⟨fs1, at1⟩ := E.at
    refine fx_callV dX4_ligature_68 vX4_becomeLigature kkX4_112 rfl rfl at1 (c_se_become E r) rfl (by decide) (by decide) (Nat.zero_le _) (Nat.zero_le _) rfl (Nat.le_of_ble_eq_true rfl) (fun r1 h1 hk1 => ?_)
    obtain ⟨rfl, E1, k1⟩ := hk1
    refine fx_goto 109 dX4_ligature_71 (by decide) ?_
    refine fx_iloadn dX4_ligature_109 rfl ?_
    refine fx_bipush (nI 11) dX4_ligature_110 (by decide) ?_
    refine fx_icmp_ne 119 dX4_ligature_112 (by decide) (fun c112 => ?_) (fun c112 => absurd c112 (by decide))
    refine fx_iloadn dX4_ligature_119 rfl ?_
    refine fx_iconst (nI 5) dX4_ligature_120 (by decide) ?_
    refine fx_icmp_lt 128 dX4_ligature_121 (by decide) (fun c121 => absurd c121 (by decide)) (fun c121 => ?_)
    refine fx_iconst (nI 1) dX4_ligature_124 (by decide) ?_
    refine fx_goto 129 dX4_ligature_125 (by decide) ?_
    refine fx_istoren dX4_ligature_129 (by decide) ?_
    refine fx_iconst (nI 0) dX4_ligature_130 (by decide) ?_
    refine fx_istore dX4_ligature_131 (by decide) ?_
    refine fx_iload dX4_ligature_133 rfl ?_
    refine fx_iloadn dX4_ligature_135 rfl ?_
    refine fx_icmp_ge 159 dX4_ligature_136 (by decide) (fun c136 => absurd c136 (by decide)) (fun c136 => ?_)
    refine fx_aloadn dX4_ligature_139 rfl ?_
    obtain ⟨fk0, fc0, gk0, gc0, e0x, -⟩ := id E1
    refine fx_get dX4_ligature_140 ffX4_43 e0x.1 rfl ?_
    refine fx_sipush (nI 1000) dX4_ligature_143 (by decide) ?_
    refine fx_icmp_gt 159 dX4_ligature_146 (by decide) (fun c146 => absurd c146 (nI_nlt (show P.length + 1 + (y :: A).length ≤ 1000 by omega) (by decide))) (fun c146 => ?_)
    refine fx_aloadn dX4_ligature_149 rfl ?_
    obtain ⟨fs10, at10⟩ := E1.at
    refine fx_callV dX4_ligature_150 vX4_goOn kkX4_77 rfl rfl at10 (c_se_goOn E1 (Nat.le_of_ble_eq_true rfl) (by omega) (by have : ((1, r) :: y :: A : List sg).length = A.length + 2 := rfl; have : ((1, r) :: A : List sg).length = A.length + 1 := rfl; omega)) rfl (by decide) (by decide) (Nat.zero_le _) (Nat.zero_le _) rfl (Nat.le_of_ble_eq_true rfl) (fun r10 h10 hk10 => ?_)
    obtain ⟨rfl, E10, k10⟩ := hk10
    refine fx_iinc (nI 1) dX4_ligature_153 rfl (by decide) (by decide) ?_
    refine fx_goto 133 dX4_ligature_156 (by decide) ?_
    refine fx_iload dX4_ligature_133 rfl ?_
    refine fx_iloadn dX4_ligature_135 rfl ?_
    refine fx_icmp_ge 159 dX4_ligature_136 (by decide) (fun c136 => ?_) (fun c136 => absurd (by decide) c136)
    refine fx_vret dX4_ligature_159 rfl ?_
    exact ⟨rfl, Or.inl ⟨by have hmn : mz_n (mz_l 5 r P x y A) = (P ++ [(1, r)]).length + 1 + A.length := rfl; rw [List.length_append] at hmn; have : ([(1, r)] : List sg).length = 1 := rfl; omega, E10.to (nf_app _ _).symm (by have hmn : mz_n (mz_l 5 r P x y A) = (P ++ [(1, r)]).length + 1 + A.length := rfl; rw [List.length_append] at hmn; have : ([(1, r)] : List sg).length = 1 := rfl; omega)⟩, (k1.tr k10 (fun _ z _ => z))⟩
  · exact absurd trivial hov
theorem c_se_lig6 {g : fx_G} {h : fx_H} {a pik pic pak pac : Nat} {P A : List sg} {x y : sg} {tot : Int64} (E : sw h a pik pic pak pac (nf P) tot x (y :: A) (P.length + 1 + (y :: A).length)) (hx : x.1 < 4) (hsz : P.length + 1 + (y :: A).length ≤ 1000) (r : Int32) : fx_Met g mX4_ligature 3 62 [.ref a, .int (nI 6), .int r] h 0 0 (fun q h' => q = none ∧ ((mz_n (mz_l 6 r P x y A) ≤ 1000 ∧ sw h' a pik pic pak pac (nf (mz_l 6 r P x y A).1) tot (mz_l 6 r P x y A).2.1 (mz_l 6 r P x y A).2.2 (mz_n (mz_l 6 r P x y A))) ∨ (1000 < mz_n (mz_l 6 r P x y A) ∧ ∃ (I2 : List sg) (x2 : sg) (A2 : List sg) (pr2 : Nat), 1000 < pr2 ∧ pr2 ≤ 1001 ∧ A2.length ≤ 1001 ∧ sw h' a pik pic pak pac I2 tot x2 A2 pr2)) ∧ kp (sS a pik pic pak pac) h h') := by
  have hyA : (y :: A).length = A.length + 1 := rfl
  have hnP := nf_le P
  refine fx_Met.of rfl (Nat.le_of_ble_eq_true rfl) ?_
  refine fx_iloadn dX4_ligature_0 rfl ?_
  refine fx_tswIn 73 74 dX4_ligature_1 (by decide) (by decide) rfl (by decide) ?_
  by_cases hov : True
  · skip
    refine fx_aloadn dX4_ligature_74 rfl ?_
    refine fx_dup dX4_ligature_75 rfl ?_
    obtain ⟨fk, fc, gk, gc, e, hI, hA⟩ := id E
    refine fx_get dX4_ligature_76 ffX4_40 e.1 rfl ?_
    refine fx_iconst (nI 1) dX4_ligature_79 (by decide) ?_
    refine fx_isub dX4_ligature_80 ?_
    rw [pk_sub (by omega)]
    refine fx_putV dX4_ligature_81 ffX4_40 e.1 rfl rfl (Nat.le_of_ble_eq_true rfl) (fun h1 q1 o1 => ?_)
    rw [List.reverse_cons] at hA
    have E1 : sw h1 a pik pic pak pac (nf P) tot x A (P.length + 1 + (y :: A).length) := ⟨fk, fc, gk, gc, e.obj q1 o1, hI, hA.pop.1⟩
    have k1 := kp.put (kp.rf (S := sS a pik pic pak pac)) o1 (Or.inl (Or.inl rfl))
    refine fx_aloadn dX4_ligature_84 rfl ?_
    refine fx_iconst (nI 1) dX4_ligature_85 (by decide) ?_
    refine fx_iloadn dX4_ligature_86 rfl ?_
    obtain ⟨fs2, at2⟩ := E1.at
    refine fx_callV dX4_ligature_87 vX4_push kkX4_58 rfl rfl at2 (c_se_push E1 (1, r) (by omega)) rfl (by decide) (by decide) (Nat.zero_le _) (Nat.zero_le _) rfl (Nat.le_of_ble_eq_true rfl) (fun r2 h2 hk2 => ?_)
    obtain ⟨rfl, E2, k2⟩ := hk2
    refine fx_goto 109 dX4_ligature_90 (by decide) ?_
    refine fx_iloadn dX4_ligature_109 rfl ?_
    refine fx_bipush (nI 11) dX4_ligature_110 (by decide) ?_
    refine fx_icmp_ne 119 dX4_ligature_112 (by decide) (fun c112 => ?_) (fun c112 => absurd c112 (by decide))
    refine fx_iloadn dX4_ligature_119 rfl ?_
    refine fx_iconst (nI 5) dX4_ligature_120 (by decide) ?_
    refine fx_icmp_lt 128 dX4_ligature_121 (by decide) (fun c121 => absurd c121 (by decide)) (fun c121 => ?_)
    refine fx_iconst (nI 1) dX4_ligature_124 (by decide) ?_
    refine fx_goto 129 dX4_ligature_125 (by decide) ?_
    refine fx_istoren dX4_ligature_129 (by decide) ?_
    refine fx_iconst (nI 0) dX4_ligature_130 (by decide) ?_
    refine fx_istore dX4_ligature_131 (by decide) ?_
    refine fx_iload dX4_ligature_133 rfl ?_
    refine fx_iloadn dX4_ligature_135 rfl ?_
    refine fx_icmp_ge 159 dX4_ligature_136 (by decide) (fun c136 => absurd c136 (by decide)) (fun c136 => ?_)
    refine fx_aloadn dX4_ligature_139 rfl ?_
    obtain ⟨fk0, fc0, gk0, gc0, e0x, -⟩ := id E2
    refine fx_get dX4_ligature_140 ffX4_43 e0x.1 rfl ?_
    refine fx_sipush (nI 1000) dX4_ligature_143 (by decide) ?_
    refine fx_icmp_gt 159 dX4_ligature_146 (by decide) (fun c146 => absurd c146 (nI_nlt (show P.length + 1 + (y :: A).length ≤ 1000 by omega) (by decide))) (fun c146 => ?_)
    refine fx_aloadn dX4_ligature_149 rfl ?_
    obtain ⟨fs10, at10⟩ := E2.at
    refine fx_callV dX4_ligature_150 vX4_goOn kkX4_77 rfl rfl at10 (c_se_goOn E2 hx (by omega) (by have : ((1, r) :: y :: A : List sg).length = A.length + 2 := rfl; have : ((1, r) :: A : List sg).length = A.length + 1 := rfl; omega)) rfl (by decide) (by decide) (Nat.zero_le _) (Nat.zero_le _) rfl (Nat.le_of_ble_eq_true rfl) (fun r10 h10 hk10 => ?_)
    obtain ⟨rfl, E10, k10⟩ := hk10
    refine fx_iinc (nI 1) dX4_ligature_153 rfl (by decide) (by decide) ?_
    refine fx_goto 133 dX4_ligature_156 (by decide) ?_
    refine fx_iload dX4_ligature_133 rfl ?_
    refine fx_iloadn dX4_ligature_135 rfl ?_
    refine fx_icmp_ge 159 dX4_ligature_136 (by decide) (fun c136 => ?_) (fun c136 => absurd (by decide) c136)
    refine fx_vret dX4_ligature_159 rfl ?_
    exact ⟨rfl, Or.inl ⟨by have hmn : mz_n (mz_l 6 r P x y A) = (P ++ [x]).length + 1 + A.length := rfl; rw [List.length_append] at hmn; have : [x].length = 1 := rfl; omega, E10.to (nf_app _ _).symm (by have hmn : mz_n (mz_l 6 r P x y A) = (P ++ [x]).length + 1 + A.length := rfl; rw [List.length_append] at hmn; have : [x].length = 1 := rfl; omega)⟩, ((k1.tr k2 (fun _ z _ => z)).tr k10 (fun _ z _ => z))⟩
  · exact absurd trivial hov
theorem c_se_lig7 {g : fx_G} {h : fx_H} {a pik pic pak pac : Nat} {P A : List sg} {x y : sg} {tot : Int64} (E : sw h a pik pic pak pac (nf P) tot x (y :: A) (P.length + 1 + (y :: A).length)) (hx : x.1 < 4) (hsz : P.length + 1 + (y :: A).length ≤ 1000) (r : Int32) : fx_Met g mX4_ligature 3 62 [.ref a, .int (nI 7), .int r] h 0 0 (fun q h' => q = none ∧ ((mz_n (mz_l 7 r P x y A) ≤ 1000 ∧ sw h' a pik pic pak pac (nf (mz_l 7 r P x y A).1) tot (mz_l 7 r P x y A).2.1 (mz_l 7 r P x y A).2.2 (mz_n (mz_l 7 r P x y A))) ∨ (1000 < mz_n (mz_l 7 r P x y A) ∧ ∃ (I2 : List sg) (x2 : sg) (A2 : List sg) (pr2 : Nat), 1000 < pr2 ∧ pr2 ≤ 1001 ∧ A2.length ≤ 1001 ∧ sw h' a pik pic pak pac I2 tot x2 A2 pr2)) ∧ kp (sS a pik pic pak pac) h h') := by
  have hyA : (y :: A).length = A.length + 1 := rfl
  have hnP := nf_le P
  refine fx_Met.of rfl (Nat.le_of_ble_eq_true rfl) ?_
  refine fx_iloadn dX4_ligature_0 rfl ?_
  refine fx_tswOut 93 dX4_ligature_1 (by decide) (by decide) ?_
  by_cases hov : P.length + 1 + (y :: A).length + 1 ≤ 1000
  · skip
    refine fx_aloadn dX4_ligature_93 rfl ?_
    refine fx_dup dX4_ligature_94 rfl ?_
    obtain ⟨fk, fc, gk, gc, e, hI, hA⟩ := id E
    refine fx_get dX4_ligature_95 ffX4_43 e.1 rfl ?_
    refine fx_iconst (nI 1) dX4_ligature_98 (by decide) ?_
    refine fx_iadd dX4_ligature_99 ?_
    rw [nI_add]
    refine fx_putV dX4_ligature_100 ffX4_43 e.1 rfl rfl (Nat.le_of_ble_eq_true rfl) (fun h1 q1 o1 => ?_)
    have E1 : sw h1 a pik pic pak pac (nf P) tot x (y :: A) (P.length + 1 + (y :: A).length + 1) := ⟨fk, fc, gk, gc, e.obj q1 o1, hI, hA⟩
    have k1 := kp.put (kp.rf (S := sS a pik pic pak pac)) o1 (Or.inl (Or.inl rfl))
    refine fx_aloadn dX4_ligature_103 rfl ?_
    refine fx_iconst (nI 1) dX4_ligature_104 (by decide) ?_
    refine fx_iloadn dX4_ligature_105 rfl ?_
    obtain ⟨fs2, at2⟩ := E1.at
    refine fx_callV dX4_ligature_106 vX4_push kkX4_58 rfl rfl at2 (c_se_push E1 (1, r) (by omega)) rfl (by decide) (by decide) (Nat.zero_le _) (Nat.zero_le _) rfl (Nat.le_of_ble_eq_true rfl) (fun r2 h2 hk2 => ?_)
    obtain ⟨rfl, E2, k2⟩ := hk2
    refine fx_iloadn dX4_ligature_109 rfl ?_
    refine fx_bipush (nI 11) dX4_ligature_110 (by decide) ?_
    refine fx_icmp_ne 119 dX4_ligature_112 (by decide) (fun c112 => ?_) (fun c112 => absurd c112 (by decide))
    refine fx_iloadn dX4_ligature_119 rfl ?_
    refine fx_iconst (nI 5) dX4_ligature_120 (by decide) ?_
    refine fx_icmp_lt 128 dX4_ligature_121 (by decide) (fun c121 => absurd c121 (by decide)) (fun c121 => ?_)
    refine fx_iconst (nI 1) dX4_ligature_124 (by decide) ?_
    refine fx_goto 129 dX4_ligature_125 (by decide) ?_
    refine fx_istoren dX4_ligature_129 (by decide) ?_
    refine fx_iconst (nI 0) dX4_ligature_130 (by decide) ?_
    refine fx_istore dX4_ligature_131 (by decide) ?_
    refine fx_iload dX4_ligature_133 rfl ?_
    refine fx_iloadn dX4_ligature_135 rfl ?_
    refine fx_icmp_ge 159 dX4_ligature_136 (by decide) (fun c136 => absurd c136 (by decide)) (fun c136 => ?_)
    refine fx_aloadn dX4_ligature_139 rfl ?_
    obtain ⟨fk0, fc0, gk0, gc0, e0x, -⟩ := id E2
    refine fx_get dX4_ligature_140 ffX4_43 e0x.1 rfl ?_
    refine fx_sipush (nI 1000) dX4_ligature_143 (by decide) ?_
    refine fx_icmp_gt 159 dX4_ligature_146 (by decide) (fun c146 => absurd c146 (nI_nlt (show P.length + 1 + (y :: A).length + 1 ≤ 1000 by omega) (by decide))) (fun c146 => ?_)
    refine fx_aloadn dX4_ligature_149 rfl ?_
    obtain ⟨fs10, at10⟩ := E2.at
    refine fx_callV dX4_ligature_150 vX4_goOn kkX4_77 rfl rfl at10 (c_se_goOn E2 hx (by omega) (by have : ((1, r) :: y :: A : List sg).length = A.length + 2 := rfl; have : ((1, r) :: A : List sg).length = A.length + 1 := rfl; omega)) rfl (by decide) (by decide) (Nat.zero_le _) (Nat.zero_le _) rfl (Nat.le_of_ble_eq_true rfl) (fun r10 h10 hk10 => ?_)
    obtain ⟨rfl, E10, k10⟩ := hk10
    refine fx_iinc (nI 1) dX4_ligature_153 rfl (by decide) (by decide) ?_
    refine fx_goto 133 dX4_ligature_156 (by decide) ?_
    refine fx_iload dX4_ligature_133 rfl ?_
    refine fx_iloadn dX4_ligature_135 rfl ?_
    refine fx_icmp_ge 159 dX4_ligature_136 (by decide) (fun c136 => ?_) (fun c136 => absurd (by decide) c136)
    refine fx_vret dX4_ligature_159 rfl ?_
    exact ⟨rfl, Or.inl ⟨by have hmn : mz_n (mz_l 7 r P x y A) = (P ++ [x]).length + 1 + (A.length + 1) := rfl; rw [List.length_append] at hmn; have : [x].length = 1 := rfl; omega, E10.to (nf_app _ _).symm (by have hmn : mz_n (mz_l 7 r P x y A) = (P ++ [x]).length + 1 + (A.length + 1) := rfl; rw [List.length_append] at hmn; have : [x].length = 1 := rfl; omega)⟩, ((k1.tr k2 (fun _ z _ => z)).tr k10 (fun _ z _ => z))⟩
  · skip
    refine fx_aloadn dX4_ligature_93 rfl ?_
    refine fx_dup dX4_ligature_94 rfl ?_
    obtain ⟨fk, fc, gk, gc, e, hI, hA⟩ := id E
    refine fx_get dX4_ligature_95 ffX4_43 e.1 rfl ?_
    refine fx_iconst (nI 1) dX4_ligature_98 (by decide) ?_
    refine fx_iadd dX4_ligature_99 ?_
    rw [nI_add]
    refine fx_putV dX4_ligature_100 ffX4_43 e.1 rfl rfl (Nat.le_of_ble_eq_true rfl) (fun h1 q1 o1 => ?_)
    have E1 : sw h1 a pik pic pak pac (nf P) tot x (y :: A) (P.length + 1 + (y :: A).length + 1) := ⟨fk, fc, gk, gc, e.obj q1 o1, hI, hA⟩
    have k1 := kp.put (kp.rf (S := sS a pik pic pak pac)) o1 (Or.inl (Or.inl rfl))
    refine fx_aloadn dX4_ligature_103 rfl ?_
    refine fx_iconst (nI 1) dX4_ligature_104 (by decide) ?_
    refine fx_iloadn dX4_ligature_105 rfl ?_
    obtain ⟨fs2, at2⟩ := E1.at
    refine fx_callV dX4_ligature_106 vX4_push kkX4_58 rfl rfl at2 (c_se_push E1 (1, r) (by omega)) rfl (by decide) (by decide) (Nat.zero_le _) (Nat.zero_le _) rfl (Nat.le_of_ble_eq_true rfl) (fun r2 h2 hk2 => ?_)
    obtain ⟨rfl, E2, k2⟩ := hk2
    refine fx_iloadn dX4_ligature_109 rfl ?_
    refine fx_bipush (nI 11) dX4_ligature_110 (by decide) ?_
    refine fx_icmp_ne 119 dX4_ligature_112 (by decide) (fun c112 => ?_) (fun c112 => absurd c112 (by decide))
    refine fx_iloadn dX4_ligature_119 rfl ?_
    refine fx_iconst (nI 5) dX4_ligature_120 (by decide) ?_
    refine fx_icmp_lt 128 dX4_ligature_121 (by decide) (fun c121 => absurd c121 (by decide)) (fun c121 => ?_)
    refine fx_iconst (nI 1) dX4_ligature_124 (by decide) ?_
    refine fx_goto 129 dX4_ligature_125 (by decide) ?_
    refine fx_istoren dX4_ligature_129 (by decide) ?_
    refine fx_iconst (nI 0) dX4_ligature_130 (by decide) ?_
    refine fx_istore dX4_ligature_131 (by decide) ?_
    refine fx_iload dX4_ligature_133 rfl ?_
    refine fx_iloadn dX4_ligature_135 rfl ?_
    refine fx_icmp_ge 159 dX4_ligature_136 (by decide) (fun c136 => absurd c136 (by decide)) (fun c136 => ?_)
    refine fx_aloadn dX4_ligature_139 rfl ?_
    obtain ⟨fk0, fc0, gk0, gc0, e0x, -⟩ := id E2
    refine fx_get dX4_ligature_140 ffX4_43 e0x.1 rfl ?_
    refine fx_sipush (nI 1000) dX4_ligature_143 (by decide) ?_
    refine fx_icmp_gt 159 dX4_ligature_146 (by decide) (fun c146 => ?_) (fun c146 => absurd (nI_lt (show 1000 < P.length + 1 + (y :: A).length + 1 by omega) (by omega)) c146)
    refine fx_vret dX4_ligature_159 rfl ?_
    exact ⟨rfl, Or.inr ⟨by have hmn : mz_n (mz_l 7 r P x y A) = (P ++ [x]).length + 1 + (A.length + 1) := rfl; rw [List.length_append] at hmn; have : [x].length = 1 := rfl; omega, _, _, _, _, (show 1000 < P.length + 1 + (y :: A).length + 1 by omega), by omega, by have : ((1, r) :: y :: A : List sg).length = A.length + 2 := rfl; have : ((1, r) :: A : List sg).length = A.length + 1 := rfl; omega, E2⟩, (k1.tr k2 (fun _ z _ => z))⟩
theorem c_se_lig11 {g : fx_G} {h : fx_H} {a pik pic pak pac : Nat} {P A : List sg} {x y : sg} {tot : Int64} (E : sw h a pik pic pak pac (nf P) tot x (y :: A) (P.length + 1 + (y :: A).length)) (hx : x.1 < 4) (hsz : P.length + 1 + (y :: A).length ≤ 1000) (r : Int32) : fx_Met g mX4_ligature 3 62 [.ref a, .int (nI 11), .int r] h 0 0 (fun q h' => q = none ∧ ((mz_n (mz_l 11 r P x y A) ≤ 1000 ∧ sw h' a pik pic pak pac (nf (mz_l 11 r P x y A).1) tot (mz_l 11 r P x y A).2.1 (mz_l 11 r P x y A).2.2 (mz_n (mz_l 11 r P x y A))) ∨ (1000 < mz_n (mz_l 11 r P x y A) ∧ ∃ (I2 : List sg) (x2 : sg) (A2 : List sg) (pr2 : Nat), 1000 < pr2 ∧ pr2 ≤ 1001 ∧ A2.length ≤ 1001 ∧ sw h' a pik pic pak pac I2 tot x2 A2 pr2)) ∧ kp (sS a pik pic pak pac) h h') := by
  have hyA : (y :: A).length = A.length + 1 := rfl
  have hnP := nf_le P
  refine fx_Met.of rfl (Nat.le_of_ble_eq_true rfl) ?_
  refine fx_iloadn dX4_ligature_0 rfl ?_
  refine fx_tswOut 93 dX4_ligature_1 (by decide) (by decide) ?_
  by_cases hov : P.length + 1 + (y :: A).length + 1 ≤ 1000
  · skip
    refine fx_aloadn dX4_ligature_93 rfl ?_
    refine fx_dup dX4_ligature_94 rfl ?_
    obtain ⟨fk, fc, gk, gc, e, hI, hA⟩ := id E
    refine fx_get dX4_ligature_95 ffX4_43 e.1 rfl ?_
    refine fx_iconst (nI 1) dX4_ligature_98 (by decide) ?_
    refine fx_iadd dX4_ligature_99 ?_
    rw [nI_add]
    refine fx_putV dX4_ligature_100 ffX4_43 e.1 rfl rfl (Nat.le_of_ble_eq_true rfl) (fun h1 q1 o1 => ?_)
    have E1 : sw h1 a pik pic pak pac (nf P) tot x (y :: A) (P.length + 1 + (y :: A).length + 1) := ⟨fk, fc, gk, gc, e.obj q1 o1, hI, hA⟩
    have k1 := kp.put (kp.rf (S := sS a pik pic pak pac)) o1 (Or.inl (Or.inl rfl))
    refine fx_aloadn dX4_ligature_103 rfl ?_
    refine fx_iconst (nI 1) dX4_ligature_104 (by decide) ?_
    refine fx_iloadn dX4_ligature_105 rfl ?_
    obtain ⟨fs2, at2⟩ := E1.at
    refine fx_callV dX4_ligature_106 vX4_push kkX4_58 rfl rfl at2 (c_se_push E1 (1, r) (by omega)) rfl (by decide) (by decide) (Nat.zero_le _) (Nat.zero_le _) rfl (Nat.le_of_ble_eq_true rfl) (fun r2 h2 hk2 => ?_)
    obtain ⟨rfl, E2, k2⟩ := hk2
    refine fx_iloadn dX4_ligature_109 rfl ?_
    refine fx_bipush (nI 11) dX4_ligature_110 (by decide) ?_
    refine fx_icmp_ne 119 dX4_ligature_112 (by decide) (fun c112 => absurd (rfl) c112) (fun c112 => ?_)
    refine fx_iconst (nI 2) dX4_ligature_115 (by decide) ?_
    refine fx_goto 129 dX4_ligature_116 (by decide) ?_
    refine fx_istoren dX4_ligature_129 (by decide) ?_
    refine fx_iconst (nI 0) dX4_ligature_130 (by decide) ?_
    refine fx_istore dX4_ligature_131 (by decide) ?_
    refine fx_iload dX4_ligature_133 rfl ?_
    refine fx_iloadn dX4_ligature_135 rfl ?_
    refine fx_icmp_ge 159 dX4_ligature_136 (by decide) (fun c136 => absurd c136 (by decide)) (fun c136 => ?_)
    refine fx_aloadn dX4_ligature_139 rfl ?_
    obtain ⟨fk0, fc0, gk0, gc0, e0x, -⟩ := id E2
    refine fx_get dX4_ligature_140 ffX4_43 e0x.1 rfl ?_
    refine fx_sipush (nI 1000) dX4_ligature_143 (by decide) ?_
    refine fx_icmp_gt 159 dX4_ligature_146 (by decide) (fun c146 => absurd c146 (nI_nlt (show P.length + 1 + (y :: A).length + 1 ≤ 1000 by omega) (by decide))) (fun c146 => ?_)
    refine fx_aloadn dX4_ligature_149 rfl ?_
    obtain ⟨fs10, at10⟩ := E2.at
    refine fx_callV dX4_ligature_150 vX4_goOn kkX4_77 rfl rfl at10 (c_se_goOn E2 hx (by omega) (by have : ((1, r) :: y :: A : List sg).length = A.length + 2 := rfl; have : ((1, r) :: A : List sg).length = A.length + 1 := rfl; omega)) rfl (by decide) (by decide) (Nat.zero_le _) (Nat.zero_le _) rfl (Nat.le_of_ble_eq_true rfl) (fun r10 h10 hk10 => ?_)
    obtain ⟨rfl, E10, k10⟩ := hk10
    refine fx_iinc (nI 1) dX4_ligature_153 rfl (by decide) (by decide) ?_
    refine fx_goto 133 dX4_ligature_156 (by decide) ?_
    refine fx_iload dX4_ligature_133 rfl ?_
    refine fx_iloadn dX4_ligature_135 rfl ?_
    refine fx_icmp_ge 159 dX4_ligature_136 (by decide) (fun c136 => absurd c136 (by decide)) (fun c136 => ?_)
    refine fx_aloadn dX4_ligature_139 rfl ?_
    obtain ⟨fk1, fc1, gk1, gc1, e1x, -⟩ := id E10
    refine fx_get dX4_ligature_140 ffX4_43 e1x.1 rfl ?_
    refine fx_sipush (nI 1000) dX4_ligature_143 (by decide) ?_
    refine fx_icmp_gt 159 dX4_ligature_146 (by decide) (fun c146 => absurd c146 (nI_nlt (show P.length + 1 + (y :: A).length + 1 ≤ 1000 by omega) (by decide))) (fun c146 => ?_)
    refine fx_aloadn dX4_ligature_149 rfl ?_
    obtain ⟨fs11, at11⟩ := E10.at
    refine fx_callV dX4_ligature_150 vX4_goOn kkX4_77 rfl rfl at11 (c_se_goOn E10 (Nat.le_of_ble_eq_true rfl) (by rw [List.length_append]; have := nf_le [x]; have : [x].length = 1 := rfl; omega) (by have : ((1, r) :: y :: A : List sg).length = A.length + 2 := rfl; have : ((1, r) :: A : List sg).length = A.length + 1 := rfl; omega)) rfl (by decide) (by decide) (Nat.zero_le _) (Nat.zero_le _) rfl (Nat.le_of_ble_eq_true rfl) (fun r11 h11 hk11 => ?_)
    obtain ⟨rfl, E11, k11⟩ := hk11
    refine fx_iinc (nI 1) dX4_ligature_153 rfl (by decide) (by decide) ?_
    refine fx_goto 133 dX4_ligature_156 (by decide) ?_
    refine fx_iload dX4_ligature_133 rfl ?_
    refine fx_iloadn dX4_ligature_135 rfl ?_
    refine fx_icmp_ge 159 dX4_ligature_136 (by decide) (fun c136 => ?_) (fun c136 => absurd (by decide) c136)
    refine fx_vret dX4_ligature_159 rfl ?_
    exact ⟨rfl, Or.inl ⟨by have hmn : mz_n (mz_l 11 r P x y A) = (P ++ [x, (1, r)]).length + 1 + A.length := rfl; rw [List.length_append] at hmn; have : ([x, (1, r)] : List sg).length = 2 := rfl; omega, E11.to (by rw [List.append_assoc, ← nf_app, ← nf_app]; rfl) (by have hmn : mz_n (mz_l 11 r P x y A) = (P ++ [x, (1, r)]).length + 1 + A.length := rfl; rw [List.length_append] at hmn; have : ([x, (1, r)] : List sg).length = 2 := rfl; omega)⟩, (((k1.tr k2 (fun _ z _ => z)).tr k10 (fun _ z _ => z)).tr k11 (fun _ z _ => z))⟩
  · skip
    refine fx_aloadn dX4_ligature_93 rfl ?_
    refine fx_dup dX4_ligature_94 rfl ?_
    obtain ⟨fk, fc, gk, gc, e, hI, hA⟩ := id E
    refine fx_get dX4_ligature_95 ffX4_43 e.1 rfl ?_
    refine fx_iconst (nI 1) dX4_ligature_98 (by decide) ?_
    refine fx_iadd dX4_ligature_99 ?_
    rw [nI_add]
    refine fx_putV dX4_ligature_100 ffX4_43 e.1 rfl rfl (Nat.le_of_ble_eq_true rfl) (fun h1 q1 o1 => ?_)
    have E1 : sw h1 a pik pic pak pac (nf P) tot x (y :: A) (P.length + 1 + (y :: A).length + 1) := ⟨fk, fc, gk, gc, e.obj q1 o1, hI, hA⟩
    have k1 := kp.put (kp.rf (S := sS a pik pic pak pac)) o1 (Or.inl (Or.inl rfl))
    refine fx_aloadn dX4_ligature_103 rfl ?_
    refine fx_iconst (nI 1) dX4_ligature_104 (by decide) ?_
    refine fx_iloadn dX4_ligature_105 rfl ?_
    obtain ⟨fs2, at2⟩ := E1.at
    refine fx_callV dX4_ligature_106 vX4_push kkX4_58 rfl rfl at2 (c_se_push E1 (1, r) (by omega)) rfl (by decide) (by decide) (Nat.zero_le _) (Nat.zero_le _) rfl (Nat.le_of_ble_eq_true rfl) (fun r2 h2 hk2 => ?_)
    obtain ⟨rfl, E2, k2⟩ := hk2
    refine fx_iloadn dX4_ligature_109 rfl ?_
    refine fx_bipush (nI 11) dX4_ligature_110 (by decide) ?_
    refine fx_icmp_ne 119 dX4_ligature_112 (by decide) (fun c112 => absurd (rfl) c112) (fun c112 => ?_)
    refine fx_iconst (nI 2) dX4_ligature_115 (by decide) ?_
    refine fx_goto 129 dX4_ligature_116 (by decide) ?_
    refine fx_istoren dX4_ligature_129 (by decide) ?_
    refine fx_iconst (nI 0) dX4_ligature_130 (by decide) ?_
    refine fx_istore dX4_ligature_131 (by decide) ?_
    refine fx_iload dX4_ligature_133 rfl ?_
    refine fx_iloadn dX4_ligature_135 rfl ?_
    refine fx_icmp_ge 159 dX4_ligature_136 (by decide) (fun c136 => absurd c136 (by decide)) (fun c136 => ?_)
    refine fx_aloadn dX4_ligature_139 rfl ?_
    obtain ⟨fk0, fc0, gk0, gc0, e0x, -⟩ := id E2
    refine fx_get dX4_ligature_140 ffX4_43 e0x.1 rfl ?_
    refine fx_sipush (nI 1000) dX4_ligature_143 (by decide) ?_
    refine fx_icmp_gt 159 dX4_ligature_146 (by decide) (fun c146 => ?_) (fun c146 => absurd (nI_lt (show 1000 < P.length + 1 + (y :: A).length + 1 by omega) (by omega)) c146)
    refine fx_vret dX4_ligature_159 rfl ?_
    exact ⟨rfl, Or.inr ⟨by have hmn : mz_n (mz_l 11 r P x y A) = (P ++ [x, (1, r)]).length + 1 + A.length := rfl; rw [List.length_append] at hmn; have : ([x, (1, r)] : List sg).length = 2 := rfl; omega, _, _, _, _, (show 1000 < P.length + 1 + (y :: A).length + 1 by omega), by omega, by have : ((1, r) :: y :: A : List sg).length = A.length + 2 := rfl; have : ((1, r) :: A : List sg).length = A.length + 1 := rfl; omega, E2⟩, (k1.tr k2 (fun _ z _ => z))⟩
theorem c_se_lig {g : fx_G} {h : fx_H} {a pik pic pak pac : Nat} {P A : List sg} {x y : sg} {tot : Int64} (E : sw h a pik pic pak pac (nf P) tot x (y :: A) (P.length + 1 + (y :: A).length)) (hx : x.1 < 4) (hsz : P.length + 1 + (y :: A).length ≤ 1000) (o : Nat) (ho : ml_lig o) (r : Int32) : fx_Met g mX4_ligature 3 62 [.ref a, .int (nI o), .int r] h 0 0 (fun q h' => q = none ∧ ((mz_n (mz_l o r P x y A) ≤ 1000 ∧ sw h' a pik pic pak pac (nf (mz_l o r P x y A).1) tot (mz_l o r P x y A).2.1 (mz_l o r P x y A).2.2 (mz_n (mz_l o r P x y A))) ∨ (1000 < mz_n (mz_l o r P x y A) ∧ ∃ (I2 : List sg) (x2 : sg) (A2 : List sg) (pr2 : Nat), 1000 < pr2 ∧ pr2 ≤ 1001 ∧ A2.length ≤ 1001 ∧ sw h' a pik pic pak pac I2 tot x2 A2 pr2)) ∧ kp (sS a pik pic pak pac) h h') := by
  have h9 : o = 0 ∨ o = 1 ∨ o = 2 ∨ o = 3 ∨ o = 5 ∨ o = 6 ∨ o = 7 ∨ o = 11 := by
    unfold ml_lig at ho
    omega
  rcases h9 with rfl | rfl | rfl | rfl | rfl | rfl | rfl | rfl
  · exact c_se_lig0 E hx hsz r
  · exact c_se_lig1 E hx hsz r
  · exact c_se_lig2 E hx hsz r
  · exact c_se_lig3 E hx hsz r
  · exact c_se_lig5 E hx hsz r
  · exact c_se_lig6 E hx hsz r
  · exact c_se_lig7 E hx hsz r
  · exact c_se_lig11 E hx hsz r
