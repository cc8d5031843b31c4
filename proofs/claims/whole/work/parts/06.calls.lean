/-! Contracts and calls. -/
/-- a method's contract: on these arguments and this heap it returns, with K of the answer and the heap; it makes at most mc cells of ms slots -/
def fx_Met (g : fx_G) (M : fx_M) (d lo : Nat) (As : List Value) (h : fx_H) (mc ms : Nat) (K : Option Value → fx_H → Prop) : Prop :=
  ∀ l : Launch, Met l M.1 (Cond.code M.1 M.2.1 M.2.2.1 M.2.2.2 :: fx_ws) ({ frames := d, cells := mc, slots := ms, locals := lo } : Room) (fun v U => v = As.toArray ∧ fx_K g U ∧ fx_R g h U.heap) (fx_Qc g K) mc ms (fun q => g.2.2.1 ≤ q)
theorem fx_Met.of {g : fx_G} {M : fx_M} {d lo : Nat} {As : List Value} {h : fx_H} {mc ms : Nat} {K : Option Value → fx_H → Prop} (hp : (plainName M.1.cls && fx_kd M.1 == 0) = true) (hz : (lg_sl As).length ≤ M.2.2.1) (k : fx_Y g M d lo K (fun _ _ => False) 0 (lv_args 0 As) [] h mc ms) : fx_Met g M d lo As h mc ms K := by
  intro l
  have hp1 : plainName M.1.cls = true := ((Bool.and_eq_true _ _).mp hp).1
  have hp2 : fx_kd M.1 = 0 := eq_of_beq ((Bool.and_eq_true _ _).mp hp).2
  refine Met.ofW (cc := M.2.1) (maxL := M.2.2.1) (ret := M.2.2.2) hp1 rfl ?_
  intro p e s m args below meth c s₁ B hml hv
  obtain ⟨rfl, hK, hR⟩ := hv
  have hts := atoms_spec (ws := Cond.code M.1 M.2.1 M.2.2.1 M.2.2.2 :: fx_ws) B.pre
  have hl := lv_entry As (n := M.2.2.1) hz
  rw [lg_entry_eq]
  intro T hT X
  obtain ⟨t, a1, o, b1, b2, b3⟩ := k p l e _ s m As.toArray below meth c s.heap [] 0 0 _ ⟨B.exec, B.bytes, hml, B.returns, B.notSynchronized, findClass_of_methodNamed B.named, (name_of_methodNamed B.named B.method).1, fun w hw => hts w (List.mem_cons_of_mem _ hw), hK, Nat.le_refl _, Nat.le_refl _, hR.2, fx_Ex.of0 hp2⟩ hR hl (Nat.le_of_eq (Nat.zero_add _)) (Nat.le_of_eq (Nat.zero_add _)) (fun q hq => nomatch hq) T hT X
  refine ⟨t, a1, o, b1, b2, ?_⟩
  rcases b3 with ⟨c1, c2⟩ | ⟨q, -, E, ce, L, ⟨h', hf, -⟩, -⟩
  · exact ⟨c1, c2⟩
  · exact hf.elim
theorem fx_Met.mono {g : fx_G} {M : fx_M} {d lo : Nat} {As : List Value} {h : fx_H} {mc ms : Nat} {K K' : Option Value → fx_H → Prop} (hM : fx_Met g M d lo As h mc ms K) (hK : ∀ r h, K r h → K' r h) : fx_Met g M d lo As h mc ms K' := by
  intro l p e ha hc hk s m args below hf happ hP hT
  obtain ⟨t, o, a1, b1, b2, ⟨⟨r, h', e1, e2, e3⟩, b3⟩⟩ := hM l p e ha hc hk s m args below hf happ hP hT
  exact ⟨t, o, a1, b1, b2, ⟨r, h', e1, hK _ _ e2, e3⟩, b3⟩
/-- a method that answers v and leaves the heap alone -/
def fx_P (g : fx_G) (M : fx_M) (d lo : Nat) (As : List Value) (h : fx_H) (v : Value) : Prop := fx_Met g M d lo As h 0 0 (fun r h' => r = some v ∧ h' = h)
theorem fx_good {M : fx_M} (hc : Cond.code M.1 M.2.1 M.2.2.1 M.2.2.2 ∈ fx_ws) : GoodIn fx_ws (Cond.code M.1 M.2.1 M.2.2.1 M.2.2.2 :: fx_ws) := by
  intro w hw
  have hm : w ∈ fx_ws := (List.mem_cons.mp hw).elim (fun e => by rw [e]; exact hc) id
  exact ⟨hm, good_of_word (List.mem_filter.mp hm).2⟩
/-- what the tables say of a method that is called -/
def fx_V (M : fx_M) (n : Nat) : Prop := Cond.code M.1 M.2.1 M.2.2.1 M.2.2.2 ∈ fx_ws ∧ Cond.initialized M.1.cls ∈ fx_ws ∧ (M.1.cls ≠ "java/lang/invoke/MethodHandle" ∧ M.1.cls ≠ "java/lang/invoke/VarHandle" ∧ (parseMethodDescriptor M.1.desc).map (fun d => d.parameters.length) = some n)
def fx_Vi (M : fx_M) (n : Nat) : Prop := fx_V M n ∧ Cond.instanceMethod M.1 ∈ fx_ws ∧ Cond.selects M.1.cls M.1 M.1 ∈ fx_ws
def fx_Vs (M : fx_M) (n : Nat) : Prop := fx_V M n ∧ Cond.static M.1 ∈ fx_ws
def fx_Vc (M : fx_M) (n : Nat) : Prop := fx_V M n ∧ Cond.instanceMethod M.1 ∈ fx_ws ∧ M.1.name = "<init>" ∧ M.2.2.2 = none
section FXC
variable {g : fx_G} {M M' : fx_M} {d lo d' lo' : Nat} {K K' : Option Value → fx_H → Prop} {KX : String → fx_H → Prop} {pc : Nat} {lv : List (Nat × Value)} {st stk As : List Value} {h : fx_H} {cu su mc ms n idx b : Nat}
theorem fx_blind {As : List Value} : FrameBlind (fun (v : Array Value) (U : State) => v = As.toArray ∧ fx_K g U ∧ fx_R g h U.heap) :=
  fun a U f mk q => ⟨q.1, fx_K.moved (u := U) (U := U.calling f mk a) (State.WarmedH.refl U) q.2.1, q.2.2⟩
theorem fx_callV {ci : Nat} {fs : List Value} {r9 : vw_C} (hd : decode M.2.1 pc = .ok (.invokevirtual idx, 3)) (hV : fx_Vi M' n) (hlk : Cond.methodLink M.1.cls idx M'.1 ∈ fx_ws) (hc : vwCl[ci]? = some r9) (hc2 : r9.1 = M'.1.cls) (hb : h b = some (.inr (ci, fs))) (hM : fx_Met g M' d' lo' (.ref b :: As) h mc ms K') (hn : As.length = n) (hdd : d' + 1 ≤ d) (hll : 19 + M'.2.2.1 + lo' ≤ lo) (hmc : mc ≤ cu) (hms : ms ≤ su) (hstk : stk = As.reverse ++ .ref b :: st) (hst : (st.map fun v => v.category).sum ≤ 8)
    (k : ∀ (r : Option Value) (h' : fx_H), K' r h' → fx_Y g M d lo K KX (pc + 3) lv (r.toList ++ st) h' (cu - mc) (su - ms)) : fx_Y g M d lo K KX pc lv stk h cu su := by
  intro p l e R s m args below meth c H locs cells slots ls hC hR hl h1 h2 h3
  obtain ⟨⟨v1, v2, v3⟩, v4, v5⟩ := hV
  have hcd := hC.d
  have hlo := hC.lo
  have cb := callB_of (R := R) (s := s) (args := args) (own := M.1.cls) (index := idx) (y := M'.1) (bytes := M'.2.1) (maxL := M'.2.2.1) (ret := M'.2.2.2) (rm := { frames := d', cells := mc, slots := ms, locals := lo' }) (mc := mc) (ms := ms) n hC.ts (fx_good v1) rfl rfl rfl (hC.ts _ v2) (hC.ts _ hlk) v3 ⟨by show d' + 1 ≤ _; omega, by show 8 + (M'.2.2.1 + 11) + lo' ≤ _; omega⟩
  have hcell : ∃ cellB : Cell, H[b]? = some cellB ∧ cellB.vm.isStatics = false ∧ s.vm.findClass M'.1.cls = some cellB.cls := by
    obtain ⟨q', e1, cell, g1, g2, g3, -⟩ := (hR.1 b _ hb).2
    cases Option.some.inj (e1.symm.trans hc)
    exact ⟨cell, g1, by rw [g3]; rfl, by rw [g2, ← hc2]; exact (hC.k.1 ci _ hc).2.1⟩
  intro T hT X
  obtain ⟨v, st₀, t, T', L, h0, X', hL, e1, ⟨r, h', er, eK, eR⟩, sts⟩ := W.runV (b := b) (As := As) (rest := st) (g := F0 m pc ls stk) (nL := M.2.2.1) ⟨hC.x, hC.b, hC.ml, hC.own, hC.ts⟩ (hM l) ⟨cb, hC.ts _ v4, hC.ts _ v5⟩ ⟨fx_blind, hcell, fun U hU hW => ⟨rfl, hC.k.moved hW, by rw [hU]; exact hR⟩⟩ rfl hn hl.1 hstk (by show 2 * 0 + _ ≤ 8; omega) hd ⟨by omega, by omega⟩ T hT X
  cases er
  obtain ⟨t2, a1, b1⟩ := k v h' eK p l e R s m args below meth c T'.heap (locs ++ L) (cells + mc) (slots + ms) ls hC (by rw [e1]; exact eR) hl (by omega) (by omega) (fun q hq => (List.mem_append.mp hq).elim (h3 q) (hL q)) T' rfl X'
  exact ⟨t2, sts t2 a1, b1⟩
theorem fx_callS (hd : decode M.2.1 pc = .ok (.invokestatic idx, 3)) (hV : fx_Vs M' n) (hlk : Cond.methodLink M.1.cls idx M'.1 ∈ fx_ws) (hM : fx_Met g M' d' lo' As h mc ms K') (hn : As.length = n) (hdd : d' + 1 ≤ d) (hll : 19 + M'.2.2.1 + lo' ≤ lo) (hmc : mc ≤ cu) (hms : ms ≤ su) (hstk : stk = As.reverse ++ st) (hst : (st.map fun v => v.category).sum ≤ 8)
    (k : ∀ (r : Option Value) (h' : fx_H), K' r h' → fx_Y g M d lo K KX (pc + 3) lv (r.toList ++ st) h' (cu - mc) (su - ms)) : fx_Y g M d lo K KX pc lv stk h cu su := by
  intro p l e R s m args below meth c H locs cells slots ls hC hR hl h1 h2 h3
  obtain ⟨⟨v1, v2, v3⟩, v4⟩ := hV
  have hcd := hC.d
  have hlo := hC.lo
  have cb := callB_of (R := R) (s := s) (args := args) (own := M.1.cls) (index := idx) (y := M'.1) (bytes := M'.2.1) (maxL := M'.2.2.1) (ret := M'.2.2.2) (rm := { frames := d', cells := mc, slots := ms, locals := lo' }) (mc := mc) (ms := ms) n hC.ts (fx_good v1) rfl rfl rfl (hC.ts _ v2) (hC.ts _ hlk) v3 ⟨by show d' + 1 ≤ _; omega, by show 8 + (M'.2.2.1 + 11) + lo' ≤ _; omega⟩
  intro T hT X
  obtain ⟨v, st₀, t, T', L, h0, X', hL, e1, ⟨r, h', er, eK, eR⟩, sts⟩ := W.runS (As := As) (rest := st) (g := F0 m pc ls stk) (nL := M.2.2.1) ⟨hC.x, hC.b, hC.ml, hC.own, hC.ts⟩ (hM l) ⟨cb, hC.ts _ v4⟩ ⟨fx_blind, fun U hU hW => ⟨rfl, hC.k.moved hW, by rw [hU]; exact hR⟩⟩ rfl hn hl.1 hstk (by show 2 * 0 + _ ≤ 8; omega) hd ⟨by omega, by omega⟩ T hT X
  cases er
  obtain ⟨t2, a1, b1⟩ := k v h' eK p l e R s m args below meth c T'.heap (locs ++ L) (cells + mc) (slots + ms) ls hC (by rw [e1]; exact eR) hl (by omega) (by omega) (fun q hq => (List.mem_append.mp hq).elim (h3 q) (hL q)) T' rfl X'
  exact ⟨t2, sts t2 a1, b1⟩
theorem fx_callC (hd : decode M.2.1 pc = .ok (.invokespecial idx, 3)) (hV : fx_Vc M' n) (hlk : Cond.methodLink M.1.cls idx M'.1 ∈ fx_ws) (hM : fx_Met g M' d' lo' (.ref b :: As) h mc ms K') (hn : As.length = n) (hdd : d' + 1 ≤ d) (hll : 19 + M'.2.2.1 + lo' ≤ lo) (hmc : mc ≤ cu) (hms : ms ≤ su) (hstk : stk = As.reverse ++ .ref b :: st) (hst : (st.map fun v => v.category).sum ≤ 8)
    (k : ∀ (r : Option Value) (h' : fx_H), K' r h' → fx_Y g M d lo K KX (pc + 3) lv (r.toList ++ st) h' (cu - mc) (su - ms)) : fx_Y g M d lo K KX pc lv stk h cu su := by
  intro p l e R s m args below meth c H locs cells slots ls hC hR hl h1 h2 h3
  obtain ⟨⟨v1, v2, v3⟩, v4, v5, v6⟩ := hV
  have hcd := hC.d
  have hlo := hC.lo
  have cb := callB_of (R := R) (s := s) (args := args) (own := M.1.cls) (index := idx) (y := M'.1) (bytes := M'.2.1) (maxL := M'.2.2.1) (ret := M'.2.2.2) (rm := { frames := d', cells := mc, slots := ms, locals := lo' }) (mc := mc) (ms := ms) n hC.ts (fx_good v1) rfl rfl rfl (hC.ts _ v2) (hC.ts _ hlk) v3 ⟨by show d' + 1 ≤ _; omega, by show 8 + (M'.2.2.1 + 11) + lo' ≤ _; omega⟩
  rw [v6] at cb
  intro T hT X
  obtain ⟨v, st₀, t, T', L, h0, X', hL, e1, ⟨r, h', er, eK, eR⟩, sts⟩ := W.runI (b := b) (As := As) (rest := st) (g := F0 m pc ls stk) (nL := M.2.2.1) ⟨hC.x, hC.b, hC.ml, hC.own, hC.ts⟩ (by have := hM l; rw [v6] at this; exact this) ⟨cb, v5, hC.ts _ v4⟩ ⟨fx_blind, fun U hU hW => ⟨rfl, hC.k.moved hW, by rw [hU]; exact hR⟩⟩ rfl hn hl.1 hstk (by show 2 * 0 + _ ≤ 8; omega) hd ⟨by omega, by omega⟩ T hT X
  cases er
  obtain ⟨t2, a1, b1⟩ := k v h' eK p l e R s m args below meth c T'.heap (locs ++ L) (cells + mc) (slots + ms) ls hC (by rw [e1]; exact eR) hl (by omega) (by omega) (fun q hq => (List.mem_append.mp hq).elim (h3 q) (hL q)) T' rfl X'
  exact ⟨t2, sts t2 a1, b1⟩
/-- .. of a method that leaves the heap alone -/
theorem fx_callVp {ci : Nat} {fs : List Value} {r9 : vw_C} {v : Value} (hd : decode M.2.1 pc = .ok (.invokevirtual idx, 3)) (hV : fx_Vi M' n) (hlk : Cond.methodLink M.1.cls idx M'.1 ∈ fx_ws) (hc : vwCl[ci]? = some r9) (hc2 : r9.1 = M'.1.cls) (hb : h b = some (.inr (ci, fs))) (hM : fx_P g M' d' lo' (.ref b :: As) h v) (hn : As.length = n) (hdd : d' + 1 ≤ d) (hll : 19 + M'.2.2.1 + lo' ≤ lo) (hstk : stk = As.reverse ++ .ref b :: st) (hst : (st.map fun v => v.category).sum ≤ 8)
    (k : fx_Y g M d lo K KX (pc + 3) lv (v :: st) h cu su) : fx_Y g M d lo K KX pc lv stk h cu su :=
  fx_callV hd hV hlk hc hc2 hb hM hn hdd hll (Nat.zero_le _) (Nat.zero_le _) hstk hst (fun r h' q => by obtain ⟨rfl, rfl⟩ := q; exact k)
theorem fx_callSp {v : Value} (hd : decode M.2.1 pc = .ok (.invokestatic idx, 3)) (hV : fx_Vs M' n) (hlk : Cond.methodLink M.1.cls idx M'.1 ∈ fx_ws) (hM : fx_P g M' d' lo' As h v) (hn : As.length = n) (hdd : d' + 1 ≤ d) (hll : 19 + M'.2.2.1 + lo' ≤ lo) (hstk : stk = As.reverse ++ st) (hst : (st.map fun v => v.category).sum ≤ 8)
    (k : fx_Y g M d lo K KX (pc + 3) lv (v :: st) h cu su) : fx_Y g M d lo K KX pc lv stk h cu su :=
  fx_callS hd hV hlk hM hn hdd hll (Nat.zero_le _) (Nat.zero_le _) hstk hst (fun r h' q => by obtain ⟨rfl, rfl⟩ := q; exact k)
/-- Object's own constructor -/
theorem fx_objInit (hd : decode M.2.1 pc = .ok (.invokespecial idx, 3)) (hlk : Cond.methodLink M.1.cls idx objectInit ∈ fx_ws) (hi : Cond.instanceMethod objectInit ∈ fx_ws) (hcd : Cond.code objectInit ⟨#[0xb1]⟩ 1 none ∈ fx_ws) (hdd : 1 ≤ d) (hll : 20 ≤ lo) (hst : (st.map fun v => v.category).sum ≤ 8) (k : fx_Y g M d lo K KX (pc + 3) lv st h cu su) : fx_Y g M d lo K KX pc lv (.ref b :: st) h cu su := by
  intro p l e R s m args below meth c H locs cells slots ls hC hR hl h1 h2 h3
  have hcd9 := hC.d
  have hlo := hC.lo
  exact W.objInit hC.x hC.b hC.own (hC.ts _ hlk) (hC.ts _ hi) (hC.ts _ hcd) rfl (by rw [hC.ml]; exact hl.1) rfl hd (by omega) (by show 2 * 0 + _ + 12 ≤ _; omega) (k p l e R s m args below meth c H locs cells slots ls hC hR hl h1 h2 h3)
theorem fx_mmax {x y : Int32} (hd : decode M.2.1 pc = .ok (.invokestatic idx, 3)) (hlk : Cond.methodLink M.1.cls idx Lib.Math.max.name ∈ fx_ws) (hs9 : Cond.static Lib.Math.max.name ∈ fx_ws) (hi : Cond.initialized "java/lang/Math" ∈ fx_ws) (hcd : Cond.code Lib.Math.max.name Lib.Math.max.code 2 (some .int) ∈ fx_ws) (hdd : 1 ≤ d) (hll : 21 ≤ lo) (hst : (st.map fun v => v.category).sum ≤ 8) (k : fx_Y g M d lo K KX (pc + 3) lv (.int (if x < y then y else x) :: st) h cu su) : fx_Y g M d lo K KX pc lv (.int y :: .int x :: st) h cu su := by
  intro p l e R s m args below meth c H locs cells slots ls hC hR hl h1 h2 h3
  have hcd9 := hC.d
  have hlo := hC.lo
  exact va_mmax hC.x hC.b (by rw [hC.ml]; exact hl.1.symm) hC.own (hC.ts _ hlk) (hC.ts _ hs9) (hC.ts _ hi) (hC.ts _ hcd) (by omega) (by omega) (by omega) (by omega) hd (k p l e R s m args below meth c H locs cells slots ls hC hR hl h1 h2 h3)
theorem fx_mmin {x y : Int32} (hd : decode M.2.1 pc = .ok (.invokestatic idx, 3)) (hlk : Cond.methodLink M.1.cls idx Lib.Math.min.name ∈ fx_ws) (hs9 : Cond.static Lib.Math.min.name ∈ fx_ws) (hi : Cond.initialized "java/lang/Math" ∈ fx_ws) (hcd : Cond.code Lib.Math.min.name Lib.Math.min.code 2 (some .int) ∈ fx_ws) (hdd : 1 ≤ d) (hll : 21 ≤ lo) (hst : (st.map fun v => v.category).sum ≤ 8) (k : fx_Y g M d lo K KX (pc + 3) lv (.int (if y < x then y else x) :: st) h cu su) : fx_Y g M d lo K KX pc lv (.int y :: .int x :: st) h cu su := by
  intro p l e R s m args below meth c H locs cells slots ls hC hR hl h1 h2 h3
  have hcd9 := hC.d
  have hlo := hC.lo
  exact va_mmin hC.x hC.b (by rw [hC.ml]; exact hl.1.symm) hC.own (hC.ts _ hlk) (hC.ts _ hs9) (hC.ts _ hi) (hC.ts _ hcd) (by omega) (by omega) (by omega) (by omega) hd (k p l e R s m args below meth c H locs cells slots ls hC hR hl h1 h2 h3)
end FXC
