section FXV
variable {g : fx_G} {M : fx_M} {d lo : Nat} {K : Option Value → fx_H → Prop} {KX : String → fx_H → Prop} {pc : Nat} {lv : List (Nat × Value)} {st : List Value} {h : fx_H} {cu su : Nat}
theorem va_one {h : fx_H} {a : Nat} {c : fx_E} {P : fx_H → Prop} (k : ∀ h' : fx_H, h' a = some c → (∀ x, x ≠ a → h' x = h x) → P h') : P (va_up h a (some c)) := k _ (va_up_self _ _ _) (fun _ hx => va_up_ne _ _ hx)
theorem fx_putV {idx ci k9 : Nat} {ty : FieldType} {a : Nat} {fs : List Value} {v : Value} (hd : decode M.2.1 pc = .ok (.putfield idx, 3)) (F : fx_F M.1.cls idx ci k9 false ty) (hh : h a = some (.inr (ci, fs))) (hn : narrow ty v = v) (hf : fits ty v = true) (hln : k9 < fs.length) (k : ∀ h' : fx_H, h' a = some (.inr (ci, fs.set k9 v)) → (∀ x, x ≠ a → h' x = h x) → fx_Y g M d lo K KX (pc + 3) lv st h' cu su) : fx_Y g M d lo K KX pc lv (v :: .ref a :: st) h cu su := fx_put hd F hh hn hf hln (va_one k)
theorem fx_putFV {idx ci k9 : Nat} {ty : FieldType} {a : Nat} {fs : List Value} {v : Value} (hd : decode M.2.1 pc = .ok (.putfield idx, 3)) (F : fx_F M.1.cls idx ci k9 true ty) (hinit : M.1.name = "<init>") (hown9 : (vwCl[ci]?.map (·.1)) = some M.1.cls) (hh : h a = some (.inr (ci, fs))) (hn : narrow ty v = v) (hf : fits ty v = true) (hln : k9 < fs.length) (k : ∀ h' : fx_H, h' a = some (.inr (ci, fs.set k9 v)) → (∀ x, x ≠ a → h' x = h x) → fx_Y g M d lo K KX (pc + 3) lv st h' cu su) : fx_Y g M d lo K KX pc lv (v :: .ref a :: st) h cu su := fx_putF hd F hinit hown9 hh hn hf hln (va_one k)
theorem fx_iastV {a n : Nat} {i : Int32} {x : Int32} {f : Nat → Int32} (hd : decode M.2.1 pc = .ok (.iastore, 1)) (hh : h a = some (.inl (0, n, .inl f))) (hi : vp_in i n) (k : ∀ h' : fx_H, h' a = some (.inl (0, n, .inl (upd f i.toNatClampNeg x))) → (∀ x, x ≠ a → h' x = h x) → fx_Y g M d lo K KX (pc + 1) lv st h' cu su) : fx_Y g M d lo K KX pc lv (.int x :: .int i :: .ref a :: st) h cu su := fx_iast hd hh hi (va_one k)
theorem fx_bastV {a n : Nat} {i : Int32} {x : Int32} {f : Nat → Int32} (hd : decode M.2.1 pc = .ok (.bastore, 1)) (hh : h a = some (.inl (1, n, .inl f))) (hi : vp_in i n) (k : ∀ h' : fx_H, h' a = some (.inl (1, n, .inl (upd f i.toNatClampNeg (vp_nar .byte x)))) → (∀ x, x ≠ a → h' x = h x) → fx_Y g M d lo K KX (pc + 1) lv st h' cu su) : fx_Y g M d lo K KX pc lv (.int x :: .int i :: .ref a :: st) h cu su := fx_bast hd hh hi (va_one k)
theorem fx_zastV {a n : Nat} {i : Int32} {x : Int32} {f : Nat → Int32} (hd : decode M.2.1 pc = .ok (.bastore, 1)) (hh : h a = some (.inl (2, n, .inl f))) (hi : vp_in i n) (k : ∀ h' : fx_H, h' a = some (.inl (2, n, .inl (upd f i.toNatClampNeg (vp_nar .boolean x)))) → (∀ x, x ≠ a → h' x = h x) → fx_Y g M d lo K KX (pc + 1) lv st h' cu su) : fx_Y g M d lo K KX pc lv (.int x :: .int i :: .ref a :: st) h cu su := fx_zast hd hh hi (va_one k)
theorem fx_lastV {a n : Nat} {i : Int32} {x : Int64} {f : Nat → Int64} (hd : decode M.2.1 pc = .ok (.lastore, 1)) (hh : h a = some (.inl (3, n, .inr (.inl f)))) (hi : vp_in i n) (k : ∀ h' : fx_H, h' a = some (.inl (3, n, .inr (.inl (vp_updL f i.toNatClampNeg x)))) → (∀ x, x ≠ a → h' x = h x) → fx_Y g M d lo K KX (pc + 1) lv st h' cu su) : fx_Y g M d lo K KX pc lv (.long x :: .int i :: .ref a :: st) h cu su := fx_last hd hh hi (va_one k)
theorem fx_aastV {a n v : Nat} {i : Int32} {f : Nat → Option Nat} {vs : List Value} (hd : decode M.2.1 pc = .ok (.aastore, 1)) (hh : h a = some (.inl (4, n, .inr (.inr (.inr (.inr f)))))) (hv : h v = some (.inr (2, vs))) (hi : vp_in i n) (k : ∀ h' : fx_H, h' a = some (.inl (4, n, .inr (.inr (.inr (.inr (va_up f i.toNatClampNeg (some v))))))) → (∀ x, x ≠ a → h' x = h x) → fx_Y g M d lo K KX (pc + 1) lv st h' cu su) : fx_Y g M d lo K KX pc lv (.ref v :: .int i :: .ref a :: st) h cu su := fx_aast hd hh hv hi (va_one k)
theorem fx_newV {idx ci N : Nat} {C : String} {T : u_T} (ty0 : Nat → FieldType) (fs : List Value) (hd : decode M.2.1 pc = .ok (.new idx, 3)) (hc : vwCl[ci]? = some (C, T, N)) (hin : ∀ w ∈ u_ws C T N, w ∈ fx_ws) (hty : ∀ k, k < N → parseFieldDescriptor (T k).2.2.1 = some (ty0 k)) (hcl : Cond.classLink M.1.cls idx C ∈ fx_ws) (hins : Cond.instantiable C N ∈ fx_ws) (hini : Cond.initialized C ∈ fx_ws) (hfs : ∀ j, j < N → defaultValue (ty0 j) = vp_V fs j) (hcu : 1 ≤ cu) (hsu : N ≤ su)
    (k : ∀ (a : Nat) (h' : fx_H), h a = none → h' a = some (.inr (ci, fs)) → (∀ x, x ≠ a → h' x = h x) → fx_Y g M d lo K KX (pc + 3) lv (.ref a :: st) h' (cu - 1) (su - N)) : fx_Y g M d lo K KX pc lv st h cu su := fx_new ty0 fs hd hc hin hty hcl hins hini hfs hcu hsu (fun a ha => va_one (fun h' e o => k a h' ha e o))
theorem fx_newIV {at9 : ArrayType} {n : Int32} (t N : Nat) (ht : t < 3) (hat : newarray.typeOf at9 = fx_ty t) (hd : decode M.2.1 pc = .ok (.newarray at9, 2)) (hw : Cond.arrayClass (newarray.typeOf at9) ∈ fx_ws) (hn : ¬ n < 0) (hN : n.toNatClampNeg = N) (hb9 : N ≤ 1000000) (hcu : 1 ≤ cu) (hsu : N ≤ su)
    (k : ∀ (a : Nat) (h' : fx_H), h a = none → h' a = some (.inl (t, N, .inl (fun _ => 0))) → (∀ x, x ≠ a → h' x = h x) → fx_Y g M d lo K KX (pc + 2) lv (.ref a :: st) h' (cu - 1) (su - N)) : fx_Y g M d lo K KX pc lv (.int n :: st) h cu su := fx_newI t N ht hat hd hw hn hN hb9 hcu hsu (fun a ha => va_one (fun h' e o => k a h' ha e o))
/-- an address that is taken isn't a new one; an object isn't an array -/
theorem ne_new {h : fx_H} {a q : Nat} {c : fx_E} (ha : h a = some c) (hq : h q = none) : a ≠ q := fun e => by rw [e, hq] at ha; cases ha
theorem ne_oa {h : fx_H} {a q : Nat} {c : Nat × List Value} {x : Nat × vp_A} (ha : h a = some (.inr c)) (hq : h q = some (.inl x)) : a ≠ q := fun e => by rw [e, hq] at ha; cases ha
theorem ne_oo {h : fx_H} {a q i j : Nat} {x y : List Value} (ha : h a = some (.inr (i, x))) (hq : h q = some (.inr (j, y))) (hij : i ≠ j) : a ≠ q := fun e => by rw [e, hq] at ha; cases ha; exact hij rfl
theorem ne_aa {h : fx_H} {a q i j : Nat} {x y : vp_A} (ha : h a = some (.inl (i, x))) (hq : h q = some (.inl (j, y))) (hij : i ≠ j) : a ≠ q := fun e => by rw [e, hq] at ha; cases ha; exact hij rfl
/-- nothing else has changed: of what stood in h, all but S is as it was -/
def kp (S : Nat → Prop) (h h' : fx_H) : Prop := ∀ x, h x ≠ none → ¬ S x → h' x = h x
theorem kp.rf {S : Nat → Prop} {h : fx_H} : kp S h h := fun _ _ _ => rfl
theorem kp.tr {S S' : Nat → Prop} {h h' h'' : fx_H} (k1 : kp S h h') (k2 : kp S' h' h'') (hs : ∀ x, S' x → h x ≠ none → S x) : kp S h h'' := fun x hx hn => by
  have e1 := k1 x hx hn
  rw [k2 x (by rw [e1]; exact hx) (fun q => hn (hs x q hx)), e1]
theorem kp.put {S : Nat → Prop} {h h' h'' : fx_H} {a : Nat} (k1 : kp S h h') (o : ∀ x, x ≠ a → h'' x = h' x) (ha : S a ∨ h a = none) : kp S h h'' := fun x hx hn => by
  have hxa : x ≠ a := fun e => by
    subst e
    rcases ha with q | q
    · exact hn q
    · exact hx q
  rw [o x hxa]
  exact k1 x hx hn
theorem kp.new {S : Nat → Prop} {h h' : fx_H} {a : Nat} (k1 : kp S h h') (ha : h' a = none) (hS : S a → h a = none) : h a = none ∨ S a := by
  by_cases e : h a = none
  · exact Or.inl e
  · by_cases q : S a
    · exact Or.inr q
    · rw [k1 a e q] at ha
      exact Or.inl ha
theorem kp.sub {S S' : Nat → Prop} {h h' : fx_H} (k : kp S h h') (hs : ∀ x, h x ≠ none → S x → S' x) : kp S' h h' := fun x hx hn => k x hx (fun q => hn (hs x hx q))
end FXV
