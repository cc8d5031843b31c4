/-! Throws and catches, and the law's script, in the program logic. -/
section FXX
variable {g : fx_G} {M M' : fx_M} {d lo d' lo' : Nat} {K K' : Option Value → fx_H → Prop} {KX KX' : String → fx_H → Prop} {pc : Nat} {lv : List (Nat × Value)} {st stk As : List Value} {h : fx_H} {cu su mc ms n idx b : Nat}
theorem fx_old {p : Program} {l : Launch} {e : Env} {R : Room} {s : State} {m : MethodId} {args : Array Value} {below : List Frame} {meth : Method} {c : Code} {T : State} {locs : List Loc} {cells slots : Nat} (X : Stand p l e R s m args below meth c T locs cells slots) (h3 : ∀ q ∈ locs, g.2.2.1 ≤ q.base) : va_S (fun q => g.2.2.1 ≤ q) s.heap T.heap locs := by
  have h := vx_frame (U := T) X.same
  exact ⟨h.1, fun q hq hn => h.2 q hq (fun z hz e => hn (by rw [← e]; exact h3 z hz)), h3⟩
theorem fx_throwS {cls text : String} {names : List String} {ik is ic : Nat} (hkd : fx_kd M.1 = 1) (hown : M.1.cls = "FontDesk") (hcls : Bundle.fit cls = true) (hnames : ∀ n ∈ names, Bundle.fit n = true)
    (hk : Cond.classLink "FontDesk" ik cls ∈ fx_ws) (hini : Cond.initialized cls ∈ fx_ws) (hstr : (is, text) ∈ fx_strs) (hat1 : ∀ w ∈ (vx_atS "FontDesk" ic cls names).filter goodWord, w ∈ fx_ws) (hat2 : ∀ w ∈ (vx_atS "FontDesk" ic cls names).filter (fun w => !goodWord w), w ∈ [Cond.castable cls cls, .declares (Bundle.initS "java/lang/RuntimeException"), .declares (Bundle.initS "java/lang/Exception"), .declares (Bundle.initS Bundle.tN)])
    (hE : cls = fx_iae ∨ cls = fx_ise ∨ cls = fx_ioo) (hgood : ∀ w ∈ Cond.classLink "FontDesk" ik cls :: Cond.initialized cls :: vx_atS "FontDesk" ic cls names, vx_ot w = true)
    (d0 : decode M.2.1 pc = .ok (.new ik, 3)) (d3 : decode M.2.1 (pc + 3) = .ok (.dup, 1)) (d4 : decode M.2.1 (pc + 4) = .ok (.ldc is, 2)) (d6 : decode M.2.1 (pc + 6) = .ok (.invokespecial ic, 3)) (d9 : decode M.2.1 (pc + 9) = .ok (.athrow, 1))
    (hdd : names.length + 3 < d) (hll : 13 * (names.length + 1) + 43 ≤ lo) (hcu : 1 ≤ cu) (hsu : 6 ≤ su) (k : KX cls h) : fx_Y g M d lo K KX pc lv [] h cu su := by
  intro p l e R s m args below meth c H locs cells slots ls hC hR hl h1 h2 h3 T hT X
  have hex := hC.ex
  rw [fx_Ex.of1 hkd] at hex
  obtain ⟨hZ, htb⟩ := hex
  obtain ⟨z1, z2, z3, z4, z5, z6, z7⟩ := hZ
  have hS := fx_old (g := g) X h3
  rw [hT] at hS
  have hcd := hC.d
  have hlo := hC.lo
  obtain ⟨sa, hsa⟩ := z4 _ hstr
  have hca : (Cond.castable cls cls).before args s = true := by
    rcases hE with rfl | rfl | rfl
    · exact va_Nw.use rfl z5.1
    · exact va_Nw.use rfl z5.2.1
    · exact va_Nw.use rfl z5.2.2
  refine vx_throwS (A := fun q => g.2.2.1 ≤ q) (own := "FontDesk") (cls := cls) (text := text) (names := names) (ik := ik) (is := is) (ic := ic) (sa := sa) hC.x hC.b z1 (by rw [← hown]; exact hC.own) hcls hnames (hC.ts _ hk) (hC.ts _ hini) hsa (vx_hat (fun w hw => hC.ts _ (hat1 w hw)) hat2 (vx_c hca (vx_c (va_Nw.use rfl z7.1) (vx_c (va_Nw.use rfl z7.2.1) (vx_c (va_Nw.use rfl z7.2.2) vx_n))))) hgood z2 z3 hS (by rw [hC.ml]; exact hl.1) d0 d3 d4 d6 d9 (fun x hx => (htb x hx).elim) (by omega) (by show 0 + _ ≤ _; omega) (by omega) (by omega) hC.lk (fun t hvm hsz hq => ⟨h, k, hR.kept hsz hq⟩) h3 (by omega) (by omega) T hT X
/-- a method that returns or throws -/
def fx_MetX (g : fx_G) (M : fx_M) (d lo : Nat) (As : List Value) (h : fx_H) (mc ms : Nat) (K : Option Value → fx_H → Prop) (KX : String → fx_H → Prop) : Prop :=
  ∀ l : Launch, vx_Met l M.1 (Cond.code M.1 M.2.1 M.2.2.1 M.2.2.2 :: fx_ws) ({ frames := d, cells := mc, slots := ms, locals := lo } : Room) (fun v U => v = As.toArray ∧ fx_K g U ∧ fx_R g h U.heap ∧ fx_Z g l U) (fx_Qc g K) (fx_XC g KX) mc ms (fun q => g.2.2.1 ≤ q)
theorem fx_MetX.of {As : List Value} (hp : (plainName M.1.cls && fx_kd M.1 == 1) = true) (hz : (lg_sl As).length ≤ M.2.2.1) (k : fx_Y g M d lo K KX 0 (lv_args 0 As) [] h mc ms) : fx_MetX g M d lo As h mc ms K KX := by
  intro l
  have hp1 : plainName M.1.cls = true := ((Bool.and_eq_true _ _).mp hp).1
  have hp2 : fx_kd M.1 = 1 := eq_of_beq ((Bool.and_eq_true _ _).mp hp).2
  refine vx_ofW (cc := M.2.1) (maxL := M.2.2.1) (ret := M.2.2.2) hp1 rfl ?_
  intro p e s m args below meth c s₁ B hml htb hv
  obtain ⟨rfl, hK, hR, hZ⟩ := hv
  have hts := atoms_spec (ws := Cond.code M.1 M.2.1 M.2.2.1 M.2.2.2 :: fx_ws) B.pre
  have hl := lv_entry As (n := M.2.2.1) hz
  rw [lg_entry_eq]
  exact k p l e _ s m As.toArray below meth c s.heap [] 0 0 _ ⟨B.exec, B.bytes, hml, B.returns, B.notSynchronized, findClass_of_methodNamed B.named, (name_of_methodNamed B.named B.method).1, fun w hw => hts w (List.mem_cons_of_mem _ hw), hK, Nat.le_refl _, Nat.le_refl _, hR.2, by rw [fx_Ex.of1 hp2]; exact ⟨hZ, htb⟩⟩ hR hl (Nat.le_of_eq (Nat.zero_add _)) (Nat.le_of_eq (Nat.zero_add _)) (fun q hq => nomatch hq)
/-- a helper of the law: it catches what its callee throws -/
def fx_MetW (g : fx_G) (M : fx_M) (d lo : Nat) (As : List Value) (h : fx_H) (mc ms : Nat) (K : Option Value → fx_H → Prop) : Prop :=
  ∀ l : Launch, vx_Met l M.1 (Cond.codeWith M.1 M.2.1 M.2.2.1 M.2.2.2 (fx_tb M.1) :: fx_ws) ({ frames := d, cells := mc, slots := ms, locals := lo } : Room) (fun v U => v = As.toArray ∧ fx_K g U ∧ fx_R g h U.heap ∧ fx_Z g l U) (fx_Qc g K) (fx_XC g (fun _ _ => False)) mc ms (fun q => g.2.2.1 ≤ q)
theorem fx_MetW.of {As : List Value} (hp : (plainName M.1.cls && fx_kd M.1 == 2) = true) (hz : (lg_sl As).length ≤ M.2.2.1) (k : fx_Y g M d lo K (fun _ _ => False) 0 (lv_args 0 As) [] h mc ms) : fx_MetW g M d lo As h mc ms K := by
  intro l
  have hp1 : plainName M.1.cls = true := ((Bool.and_eq_true _ _).mp hp).1
  have hp2 : fx_kd M.1 = 2 := eq_of_beq ((Bool.and_eq_true _ _).mp hp).2
  refine vx_ofWH (cc := M.2.1) (maxL := M.2.2.1) (ret := M.2.2.2) (hh := fx_tb M.1) hp1 rfl ?_
  intro p e s m args below meth c s₁ B hml hv
  obtain ⟨rfl, hK, hR, hZ⟩ := hv
  have hts := atoms_spec (ws := Cond.codeWith M.1 M.2.1 M.2.2.1 M.2.2.2 (fx_tb M.1) :: fx_ws) B.pre
  have htb := vx_table (x := M.1) B (hts _ List.mem_cons_self)
  have hl := lv_entry As (n := M.2.2.1) hz
  rw [lg_entry_eq]
  exact k p l e _ s m As.toArray below meth c s.heap [] 0 0 _ ⟨B.exec, B.bytes, hml, B.returns, B.notSynchronized, findClass_of_methodNamed B.named, (name_of_methodNamed B.named B.method).1, fun w hw => hts w (List.mem_cons_of_mem _ hw), hK, Nat.le_refl _, Nat.le_refl _, hR.2, by rw [fx_Ex.of2 hp2]; exact ⟨hZ, htb⟩⟩ hR hl (Nat.le_of_eq (Nat.zero_add _)) (Nat.le_of_eq (Nat.zero_add _)) (fun q hq => nomatch hq)
theorem fx_blindX {l : Launch} {As : List Value} : FrameBlind (fun (v : Array Value) (U : State) => v = As.toArray ∧ fx_K g U ∧ fx_R g h U.heap ∧ fx_Z g l U) :=
  fun a U f mk q => ⟨q.1, fx_K.moved (u := U) (U := U.calling f mk a) (State.WarmedH.refl U) q.2.1, q.2.2.1, fx_Z.moved (s := U) (U := U.calling f mk a) (State.WarmedH.refl U) (fun _ _ _ => rfl) q.2.2.2⟩
/-- E, thrown at pc, is caught at hp -/
def fx_Hd (M : fx_M) (E : String) (pc hp : Nat) : Prop := ∃ (pre : List ExceptionTableEntry) (x : ExceptionTableEntry) (suf : List ExceptionTableEntry), tableOf (fx_tb M.1) = pre ++ x :: suf ∧ (∀ z ∈ pre, covers z pc = true ∧ z.catchType ≠ 0 ∧ ∃ nm : String, Cond.classLink M.1.cls z.catchType nm ∈ fx_ws ∧ ((E = fx_ise ∧ nm = fx_iae) ∨ (E = fx_iae ∧ nm = fx_ioo) ∨ (E = fx_ise ∧ nm = fx_ioo))) ∧ covers x pc = true ∧ x.catchType ≠ 0 ∧ Cond.classLink M.1.cls x.catchType E ∈ fx_ws ∧ (E = fx_iae ∨ E = fx_ise ∨ E = fx_ioo) ∧ x.handlerPc = hp
theorem fx_callVX {ci : Nat} {fs : List Value} {r9 : vw_C} (hkd : fx_kd M.1 = 2) (hd : decode M.2.1 pc = .ok (.invokevirtual idx, 3)) (hV : fx_Vi M' n) (hlk : Cond.methodLink M.1.cls idx M'.1 ∈ fx_ws) (hc : vwCl[ci]? = some r9) (hc2 : r9.1 = M'.1.cls) (hb : h b = some (.inr (ci, fs))) (hM : fx_MetX g M' d' lo' (.ref b :: As) h mc ms K' KX') (hn : As.length = n) (hdd : d' + 1 ≤ d) (hll : 19 + M'.2.2.1 + lo' ≤ lo) (hmc : mc ≤ cu) (hms : ms ≤ su) (hstk : stk = As.reverse ++ .ref b :: st) (hst : (st.map fun v => v.category).sum ≤ 8)
    (k : ∀ (r : Option Value) (h' : fx_H), K' r h' → fx_Y g M d lo K KX (pc + 3) lv (r.toList ++ st) h' (cu - mc) (su - ms))
    (kx : ∀ (E : String) (h' : fx_H), KX' E h' → ∃ hp : Nat, fx_Hd M E pc hp ∧ ∀ q : Nat, fx_Y g M d lo K KX hp lv [.ref q] h' (cu - mc) (su - ms)) : fx_Y g M d lo K KX pc lv stk h cu su := by
  intro p l e R s m args below meth c H locs cells slots ls hC hR hl h1 h2 h3 T hT X
  obtain ⟨⟨v1, v2, v3⟩, v4, v5⟩ := hV
  have hcd := hC.d
  have hlo := hC.lo
  have hex := hC.ex
  rw [fx_Ex.of2 hkd] at hex
  obtain ⟨hZ, htb⟩ := hex
  have hS := fx_old (g := g) X h3
  rw [hT] at hS
  have cb := callB_of (R := R) (s := s) (args := args) (own := M.1.cls) (index := idx) (y := M'.1) (bytes := M'.2.1) (maxL := M'.2.2.1) (ret := M'.2.2.2) (rm := { frames := d', cells := mc, slots := ms, locals := lo' }) (mc := mc) (ms := ms) n hC.ts (fx_good v1) rfl rfl rfl (hC.ts _ v2) (hC.ts _ hlk) v3 ⟨by show d' + 1 ≤ _; omega, by show 8 + (M'.2.2.1 + 11) + lo' ≤ _; omega⟩
  have hcell : ∃ cellB : Cell, H[b]? = some cellB ∧ cellB.vm.isStatics = false ∧ s.vm.findClass M'.1.cls = some cellB.cls := by
    obtain ⟨q', e1, cell, g1, g2, g3, -⟩ := (hR.1 b _ hb).2
    cases Option.some.inj (e1.symm.trans hc)
    exact ⟨cell, g1, by rw [g3]; rfl, by rw [g2, ← hc2]; exact (hC.k.1 ci _ hc).2.1⟩
  rcases vx_runV (b := b) (As := As) (rest := st) (g := F0 m pc ls stk) (nL := M.2.2.1) ⟨hC.x, hC.b, hC.ml, hC.own, hC.ts⟩ (hM l) ⟨cb, hC.ts _ v4, hC.ts _ v5⟩ ⟨fx_blindX, hcell, fun U hU hW => ⟨rfl, hC.k.moved hW, by rw [hU]; exact hR, hZ.moved hW (fun a ha hn => by rw [hU]; exact hS.2.1 a ha hn)⟩⟩ rfl hn hl.1 hstk (by show 2 * 0 + _ ≤ 8; omega) hd ⟨by omega, by omega⟩ T hT X with ⟨v, st₀, t, T', L, h0, X', hL, e1, e2, ⟨r, h', er, eK, eR⟩, sts⟩ | ⟨q, st₀, t, T', L, E, ce, h0, X', hL, e1, e2, ⟨h', eK, eR⟩, hce, hcv, hcl, sts⟩
  · cases er
    obtain ⟨t2, a1, b1⟩ := k v h' eK p l e R s m args below meth c T'.heap (locs ++ L) (cells + mc) (slots + ms) ls hC (by rw [e1]; exact eR) hl (by omega) (by omega) (fun q hq => (List.mem_append.mp hq).elim (h3 q) (hL q)) T' rfl X'
    exact ⟨t2, sts t2 a1, b1⟩
  · obtain ⟨hp, ⟨pre, x, suf, x1, x2, x3, x4, x5, x6, rfl⟩, hk⟩ := kx E h' eK
    have hca : (Cond.castable E E).before args s = true := by
      rcases x6 with rfl | rfl | rfl
      · exact va_Nw.use rfl hZ.2.2.2.2.1.1
      · exact va_Nw.use rfl hZ.2.2.2.2.1.2.1
      · exact va_Nw.use rfl hZ.2.2.2.2.1.2.2
    obtain ⟨t2, a1, b1⟩ := vy_catch (st := st) hC.own pre x suf (htb.trans x1) (fun z hz => by
      obtain ⟨y1, y2, nm, y3, y4⟩ := x2 z hz
      refine ⟨y1, y2, nm, hC.ts _ y3, ?_⟩
      rcases y4 with ⟨rfl, rfl⟩ | ⟨rfl, rfl⟩ | ⟨rfl, rfl⟩
      · exact hZ.2.2.2.2.2.1.1
      · exact hZ.2.2.2.2.2.1.2.1
      · exact hZ.2.2.2.2.2.1.2.2) x3 x4 (hC.ts _ x5) hca (H := T'.heap) (by rw [e1]; exact hce) hcv hcl (hk q p l e R s m args below meth c T'.heap (locs ++ L) (cells + mc) (slots + ms) ls hC (by rw [e1]; exact eR) hl (by omega) (by omega) (fun q hq => (List.mem_append.mp hq).elim (h3 q) (hL q))) T' rfl X'
    exact ⟨t2, sts.trans a1, b1⟩
/-- the law calls a helper of its own -/
def fx_Vw (M : fx_M) (n : Nat) : Prop := Cond.codeWith M.1 M.2.1 M.2.2.1 M.2.2.2 (fx_tb M.1) ∈ fx_ws ∧ Cond.initialized M.1.cls ∈ fx_ws ∧ (M.1.cls ≠ "java/lang/invoke/MethodHandle" ∧ M.1.cls ≠ "java/lang/invoke/VarHandle" ∧ (parseMethodDescriptor M.1.desc).map (fun d => d.parameters.length) = some n) ∧ Cond.static M.1 ∈ fx_ws
theorem fx_callSW (hkd : fx_kd M.1 = 3) (hd : decode M.2.1 pc = .ok (.invokestatic idx, 3)) (hV : fx_Vw M' n) (hlk : Cond.methodLink M.1.cls idx M'.1 ∈ fx_ws) (hM : fx_MetW g M' d' lo' As h mc ms K') (hn : As.length = n) (hdd : d' + 1 ≤ d) (hll : 19 + M'.2.2.1 + lo' ≤ lo) (hmc : mc ≤ cu) (hms : ms ≤ su) (hstk : stk = As.reverse ++ st) (hst : (st.map fun v => v.category).sum ≤ 8)
    (k : ∀ (r : Option Value) (h' : fx_H), K' r h' → fx_Y g M d lo K KX (pc + 3) lv (r.toList ++ st) h' (cu - mc) (su - ms)) : fx_Y g M d lo K KX pc lv stk h cu su := by
  intro p l e R s m args below meth c H locs cells slots ls hC hR hl h1 h2 h3 T hT X
  obtain ⟨v1, v2, v3, v4⟩ := hV
  have hcd := hC.d
  have hlo := hC.lo
  have hex := hC.ex
  rw [fx_Ex.of3 hkd] at hex
  obtain ⟨hZ, -⟩ := hex
  have hS := fx_old (g := g) X h3
  rw [hT] at hS
  have hg9 : GoodIn fx_ws (Cond.codeWith M'.1 M'.2.1 M'.2.2.1 M'.2.2.2 (fx_tb M'.1) :: fx_ws) := by
    intro w hw
    have hm : w ∈ fx_ws := (List.mem_cons.mp hw).elim (fun e => by rw [e]; exact v1) id
    exact ⟨hm, good_of_word (List.mem_filter.mp hm).2⟩
  have cw : vx_CSW R s args M.1.cls idx M'.1 M'.2.1 M'.2.2.1 M'.2.2.2 (fx_tb M'.1) (Cond.codeWith M'.1 M'.2.1 M'.2.2.1 M'.2.2.2 (fx_tb M'.1) :: fx_ws) { frames := d', cells := mc, slots := ms, locals := lo' } mc ms n := by
    refine ⟨⟨rfl, rfl, by show d' + 1 ≤ _; omega, by show 8 + (M'.2.2.1 + 11) + lo' ≤ _; omega, pay_in hC.ts hg9, List.mem_cons_self⟩, hC.ts _ v1, hC.ts _ v2, ⟨v3.1, v3.2.1⟩, fun sig h => ?_, hC.ts _ hlk, hC.ts _ v4⟩
    have h2 := v3.2.2
    rw [h] at h2
    exact (Option.some.inj h2).symm
  rcases vx_runSX (As := As) (rest := st) (g := F0 m pc ls stk) (nL := M.2.2.1) ⟨hC.x, hC.b, hC.ml, hC.own, hC.ts⟩ (hM l) cw ⟨fx_blindX, fun U hU hW => ⟨rfl, hC.k.moved hW, by rw [hU]; exact hR, hZ.moved hW (fun a ha hn => by rw [hU]; exact hS.2.1 a ha hn)⟩⟩ rfl hn hl.1 hstk (by show 2 * 0 + _ ≤ 8; omega) hd ⟨by omega, by omega⟩ T hT X with ⟨v, st₀, t, T', L, h0, X', hL, e1, e2, ⟨r, h', er, eK, eR⟩, sts⟩ | ⟨q, st₀, t, T', L, E, ce, h0, X', hL, e1, e2, ⟨h', eK, eR⟩, hce, hcv, hcl, sts⟩
  · cases er
    obtain ⟨t2, a1, b1⟩ := k v h' eK p l e R s m args below meth c T'.heap (locs ++ L) (cells + mc) (slots + ms) ls hC (by rw [e1]; exact eR) hl (by omega) (by omega) (fun q hq => (List.mem_append.mp hq).elim (h3 q) (hL q)) T' rfl X'
    exact ⟨t2, sts t2 a1, b1⟩
  · exact eK.elim
/-- the law reads its script -/
theorem fx_sld {i : Int32} (hkd : fx_kd M.1 = 3) (hd : decode M.2.1 pc = .ok (.iaload, 1)) (hi : vp_in i g.2.2.2.2.1) (k : fx_Y g M d lo K KX (pc + 1) lv (.int (g.2.2.2.2.2 i.toNatClampNeg) :: st) h cu su) : fx_Y g M d lo K KX pc lv (.int i :: .ref g.2.2.2.1 :: st) h cu su := by
  intro p l e R s m args below meth c H locs cells slots ls hC hR hl h1 h2 h3 T hT X
  have hex := hC.ex
  rw [fx_Ex.of3 hkd] at hex
  obtain ⟨-, -, hX, hb⟩ := hex
  have hS := fx_old (g := g) X h3
  rw [hT] at hS
  have hhp := hC.hp
  exact va_sld hC.x hC.b hX (by omega) (by show ¬ g.2.2.1 ≤ _; omega) hS hi hd (k p l e R s m args below meth c H locs cells slots ls hC hR hl h1 h2 h3) T hT X
theorem fx_slen (hkd : fx_kd M.1 = 3) (hd : decode M.2.1 pc = .ok (.arraylength, 1)) (k : fx_Y g M d lo K KX (pc + 1) lv (.int (nI g.2.2.2.2.1) :: st) h cu su) : fx_Y g M d lo K KX pc lv (.ref g.2.2.2.1 :: st) h cu su := by
  intro p l e R s m args below meth c H locs cells slots ls hC hR hl h1 h2 h3 T hT X
  have hex := hC.ex
  rw [fx_Ex.of3 hkd] at hex
  obtain ⟨-, -, hX, hb⟩ := hex
  have hS := fx_old (g := g) X h3
  rw [hT] at hS
  have hhp := hC.hp
  exact va_slen hC.x hC.b hX (by omega) (by show ¬ g.2.2.1 ≤ _; omega) hS hd (k p l e R s m args below meth c H locs cells slots ls hC hR hl h1 h2 h3) T hT X
end FXX
