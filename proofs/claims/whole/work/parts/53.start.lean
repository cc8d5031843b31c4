/-! THE CLAIM OUT OF ONE WALK OF THE LAW'S BODY. Your part is whole_start (and what it stands on); all else here is the same for every law, but numbers. -/
def R_law : String := "FontDeskLaw"
def lw_P (b : Addr) (xs : List Int32) (args : Array Value) (s : State) : Prop := args = #[.ref b] ∧ s.IntsAt b xs ∧ xs.length ≤ 2048 ∧ (Jvm.Cond.and given_1 narrow_1).before args s = true
def lw_Q (_ : Array Value) (s : State) (o : Outcome) (t : State) : Prop := o = .returned (some (.int 1)) ∧ Framed s o t [] 601024 7293034
def lw_Z (below : List Frame) (a : Array Value) (s : State) : State → Prop := fun t => ∃ o, t.status = .running ∧ Ended t below o ∧ lw_Q a s o t
/-- what holds at the law's entry: the machine, the code, the tables' words (any of lw_tbl by 'hts w (by decide +kernel)'), the script of L ints xs at the cell b, what the Statement gives of the start (any of its parts by flat_of_before) -/
def lw_At (p : Program) (s : State) (m : MethodId) (meth : Method) (c : Code) (b L : Nat) (xs : Nat → Int32) : Prop :=
  p.tables.exec = Jvm.exec ∧ c.code = code ∧ meth.sig.returnType = ret ∧ c.maxLocals = 7 ∧ s.vm.findClass R_law = some m.cls ∧ (∀ w ∈ lw_tbl, w.before #[Value.ref b] s = true) ∧ va_X b L xs s s.heap ∧ b < s.heap.size ∧ meth.locks = false ∧ (Jvm.Cond.and given_1 narrow_1).before #[Value.ref b] s = true
theorem ws_at (i : Nat) {w : Cond} {a : Array Value} {s : State} (hts : ∀ w ∈ lw_tbl, w.before a s = true) (h : lw_tbl[i]? = some w) : w.before a s = true := hts w (List.mem_of_getElem? h)
set_option maxRecDepth 100000 in
theorem ws_N {a : Array Value} {s : State} (hts : ∀ w ∈ lw_tbl, w.before a s = true) : fx_N s :=
  ⟨va_Nw.of rfl (ws_at 84 hts rfl), va_Nw.of rfl (ws_at 100 hts rfl), va_Nw.of rfl (ws_at 126 hts rfl), va_AO.of (ws_at 97 hts rfl)⟩
theorem ws_ar {a : Array Value} {s : State} {ty : FieldType} (h : (Cond.arrayClass ty).before a s = true) (hp : ∀ C, ty ≠ .object C) : ∃ cA : ClassId, ArrOfT s cA ty ∧ va_RA s cA ty := by
  obtain ⟨c, k, comp, h1, h2, h3⟩ := Cond.arrayClass_spec h
  refine ⟨c, fun n z => ⟨fun k h => (by cases h), k, h2, comp, h3⟩, ?_⟩
  cases ty with
  | object C => exact absurd rfl (hp C)
  | _ => exact h1
theorem ws_K {a : Array Value} {s : State} (hts : ∀ w ∈ lw_tbl, w.before a s = true) (hN : fx_N s) (hb : Nat × Nat × Nat × (Nat → Int32)) : ∃ (dC : va_G) (ar : Nat → ClassId), fx_K (dC, ar, hb) s := by
  have hw : ∀ w ∈ fx_ws, w.before a s = true := fun w h => hts w (List.mem_filter.mp h).1
  have h0 : ∀ k : Nat, ∃ q : ClassId × (Nat → Nat), ∀ r : vw_C, vwCl[k]? = some r → u_Kn s r.1 r.2.1 r.2.2 q.1 q.2 := by
    intro k
    match k with
    | 0 =>
      obtain ⟨c0, i0, hk⟩ := u_known (C := RX0) (T := TX0) (N := 2) (n := 2) hw iiX0 (hw _ szX0)
      exact ⟨(c0, i0), fun r hr => by cases hr; exact hk⟩
    | 1 =>
      obtain ⟨c0, i0, hk⟩ := u_known (C := RX1) (T := TX1) (N := 6) (n := 6) hw iiX1 (hw _ szX1)
      exact ⟨(c0, i0), fun r hr => by cases hr; exact hk⟩
    | 2 =>
      obtain ⟨c0, i0, hk⟩ := u_known (C := RX3) (T := TX3) (N := 5) (n := 5) hw iiX3 (hw _ szX3)
      exact ⟨(c0, i0), fun r hr => by cases hr; exact hk⟩
    | 3 =>
      obtain ⟨c0, i0, hk⟩ := u_known (C := RX4) (T := TX4) (N := 10) (n := 10) hw iiX4 (hw _ szX4)
      exact ⟨(c0, i0), fun r hr => by cases hr; exact hk⟩
    | 4 =>
      obtain ⟨c0, i0, hk⟩ := u_known (C := RX5) (T := TX5) (N := 6) (n := 6) hw iiX5 (hw _ szX5)
      exact ⟨(c0, i0), fun r hr => by cases hr; exact hk⟩
    | 5 =>
      obtain ⟨c0, i0, hk⟩ := u_known (C := RX6) (T := TX6) (N := 15) (n := 15) hw iiX6 (hw _ szX6)
      exact ⟨(c0, i0), fun r hr => by cases hr; exact hk⟩
    | k + 6 => exact ⟨(0, fun _ => 0), fun r hr => by simp [vwCl] at hr⟩
  have h1 : ∀ t : Nat, ∃ cA : ClassId, t < 5 → ArrOfT s cA (fx_ty t) ∧ va_RA s cA (fx_ty t) := by
    intro t
    match t with
    | 0 => exact (ws_ar (hw _ ac_int) (fun C z => by cases z)).elim fun c h => ⟨c, fun _ => h⟩
    | 1 => exact (ws_ar (hw _ ac_byte) (fun C z => by cases z)).elim fun c h => ⟨c, fun _ => h⟩
    | 2 => exact (ws_ar (hw _ ac_boolean) (fun C z => by cases z)).elim fun c h => ⟨c, fun _ => h⟩
    | 3 => exact (ws_ar (hw _ ac_long) (fun C z => by cases z)).elim fun c h => ⟨c, fun _ => h⟩
    | 4 =>
      obtain ⟨comp, c, k, e1, -, e3, e4, e5⟩ := Cond.arrayOver_spec (va_AO.use (A := a) hN.2.2.2)
      exact ⟨c, fun _ => ⟨fun n z => ⟨fun k h => (by cases h), k, e3, comp, e4⟩, k, comp, e3, e4, e1, e5⟩⟩
    | t + 5 => exact ⟨0, fun h => absurd h (by omega)⟩
  obtain ⟨ad, had⟩ := Classical.axiomOfChoice h0
  obtain ⟨ar, har⟩ := Classical.axiomOfChoice h1
  exact ⟨(fun k => (ad k).1, fun k => (ad k).2), ar, fun k r hr => had k r hr, har, hN⟩
theorem ws_str {own tx : String} {k : Nat} {a : Array Value} {s : State} (h1 : (Cond.stringRef own k tx).before a s = true) (h2 : (Cond.exactly (.string own k) "java/lang/String").before a s = true) : ∃ q : Nat, vk_R own k tx q s := by
  obtain ⟨q, c, cA, kA, q1, -⟩ := Cond.exactly_spec (args := a) (first := s) (o := none) (s := s) (idx := []) (t := .string own k) (cls := "java/lang/String") h2
  exact ⟨q, vk_R.of h1 q1⟩
set_option maxRecDepth 100000 in
theorem ws_Z {g : fx_G} {l : Launch} {a : Array Value} {s : State} (htr : l.stackTraces = false) (hts : ∀ w ∈ lw_tbl, w.before a s = true) (hgv : (Jvm.Cond.and given_1 narrow_1).before a s = true) (hg : g.2.2.1 = s.heap.size) : fx_Z g l s := by
  have hs := flat_of_before _ hgv
  have hA : ∀ q : Nat, q < s.heap.size → ¬ g.2.2.1 ≤ q := fun q hq z => by omega
  have hini : (Cond.initialized Bundle.tN).before a s = true := ws_at 66 hts rfl
  refine ⟨htr, vx_Zqof (ws_at 307 hts rfl) hini (hs _ (by decide +kernel)) hA, vx_Zqof (ws_at 309 hts rfl) hini (hs _ (by decide +kernel)) hA, ?_, ⟨va_Nw.of rfl (ws_at 563 hts rfl), va_Nw.of rfl (ws_at 282 hts rfl), va_Nw.of rfl (ws_at 593 hts rfl)⟩, ⟨va_Nc.of (hs _ (by decide +kernel)), va_Nc.of (hs _ (by decide +kernel)), va_Nc.of (hs _ (by decide +kernel))⟩, ⟨va_Nw.of rfl (ws_at 284 hts rfl), va_Nw.of rfl (ws_at 286 hts rfl), va_Nw.of rfl (ws_at 288 hts rfl)⟩⟩
  intro q hq
  unfold fx_strs at hq
  rcases List.mem_cons.mp hq with rfl | hq
  · exact ws_str (ws_at 321 hts rfl) (hs _ (by decide +kernel))
  rcases List.mem_cons.mp hq with rfl | hq
  · exact ws_str (ws_at 570 hts rfl) (hs _ (by decide +kernel))
  rcases List.mem_cons.mp hq with rfl | hq
  · exact ws_str (ws_at 600 hts rfl) (hs _ (by decide +kernel))
  rcases List.mem_cons.mp hq with rfl | hq
  · exact ws_str (ws_at 623 hts rfl) (hs _ (by decide +kernel))
  rcases List.mem_cons.mp hq with rfl | hq
  · exact ws_str (ws_at 652 hts rfl) (hs _ (by decide +kernel))
  rcases List.mem_cons.mp hq with rfl | hq
  · exact ws_str (ws_at 653 hts rfl) (hs _ (by decide +kernel))
  rcases List.mem_cons.mp hq with rfl | hq
  · exact ws_str (ws_at 709 hts rfl) (hs _ (by decide +kernel))
  cases hq
/-- from the entry, for every script of at most 2048 ints, the law comes to its end with true -/
theorem whole_start {p : Program} {e : Env} {s : State} {m : MethodId} {below : List Frame} {meth : Method} {c : Code} (l : Launch) {b L : Nat} {xs : Nat → Int32} (htr : l.stackTraces = false) (hnm : meth.name = "law") (hL : L ≤ 2048) (C0 : lw_At p s m meth c b L xs) : W p l e room_1 s m #[Value.ref b] below meth c s.heap [] 0 0 (lw_Z below #[Value.ref b] s) (entryFrame m ([Value.ref b] : List Value).toArray 7) := by
  obtain ⟨hx, hb, hr, hml, hown, hts, hX, hbl, hlocks, hgv⟩ := C0
  obtain ⟨dC, ar, hK⟩ := ws_K hts (ws_N hts) (s.heap.size, b, L, xs)
  have hls := lv_entry ([.ref b]) (n := 7) (Nat.le_of_ble_eq_true rfl)
  rw [lg_entry_eq]
  generalize (lg_sl ([.ref b]) ++ List.replicate (7 - (lg_sl ([.ref b])).length) Slot.unset).toArray = ls at hls ⊢
  have hls : lv_has ls 7 [(0, .ref b)] := hls
  have hEx : fx_Ex (dC, ar, s.heap.size, b, L, xs) l mL_law #[Value.ref b] s c := by
    rw [fx_Ex.of3 rfl]
    exact ⟨ws_Z htr hts hgv rfl, rfl, hX, hbl⟩
  intro T hT X
  obtain ⟨t, a1, o, b1, b2, b3⟩ := w_law (g := (dC, ar, s.heap.size, b, L, xs)) (h := fun _ => none) (fun _ => rfl) hL p l e room_1 s m #[Value.ref b] below meth c s.heap [] 0 0 ls ⟨hx, hb, hml, hr, hlocks, hown, hnm, fun w hw => hts w (List.mem_filter.mp hw).1, hK, Nat.le_of_ble_eq_true rfl, Nat.le_of_ble_eq_true rfl, Nat.le_refl _, hEx⟩ ⟨fun a c hc => (by cases hc), Nat.le_refl _⟩ hls (Nat.le_of_ble_eq_true rfl) (Nat.le_of_ble_eq_true rfl) (fun q hq => nomatch hq) T hT X
  refine ⟨t, a1, o, b1, b2, ?_⟩
  rcases b3 with ⟨⟨r, h', e1, e2, e3⟩, LL, f1, f2⟩ | ⟨q, e1, E, ce, LL, ⟨h', hf, -⟩, -⟩
  · refine ⟨by rw [e1, e2]; rfl, f1.1, f1.2.1, f1.2.2.weaken (fun x hx hlt => absurd hlt (Nat.not_lt.mpr (f2 x hx))) (Nat.le_refl _) (Nat.le_refl _)⟩
  · exact hf.elim
set_option maxHeartbeats 4000000 in
theorem lw_walk (l : Launch) (htr : l.stackTraces = false) (b : Addr) (xs : List Int32) : MetFree l x (headSpec (Jvm.Cond.code x code maxLocals ret :: tables_1) room_1) (lw_P b xs) (fun _ _ _ _ _ => True) lw_Q := by
  refine MetFree.of_bodyS (code := code) (maxLocals := maxLocals) (ret := ret) (by decide) ?_ ?_
  · intro args s m h hn
    obtain ⟨meth, c, h1, h2, h3, h4, h5, h6, -, -⟩ := Cond.code_spec hn (atoms_spec (ws := Jvm.Cond.code x code maxLocals ret :: tables_1) h _ List.mem_cons_self)
    exact ⟨meth, c, h1, h2, h3, h4, h5, h6⟩
  · intro p e s m args below meth c s₁ B hml0 hP _
    obtain ⟨rfl, hx, hbd, hgv⟩ := hP
    obtain ⟨scr, harrAt, hlist, hof, hsmall⟩ := hx
    obtain ⟨hcb, hkn, -, -⟩ := State.arrayAt?_spec harrAt
    have hown : s.vm.findClass R_law = some m.cls := findClass_of_methodNamed B.named
    have hts0 : ∀ c ∈ (Jvm.Cond.code x code maxLocals ret :: tables_1), c.before #[Value.ref b] s = true := atoms_spec (ws := Jvm.Cond.code x code maxLocals ret :: tables_1) B.pre
    have hts : ∀ w ∈ lw_tbl, w.before #[Value.ref b] s = true := k2_hts_sels lw_privs (fun w hw => hts0 w (List.mem_cons_of_mem _ hw)) lw_privs_ok
    have hml : c.maxLocals = 7 := B.maxLocals_eq (hts0 _ List.mem_cons_self)
    have X₀ : Stand p l e room_1 s m #[Value.ref b] below meth c s₁ [] 0 0 := Stand.of_body B
    have hh0 : s₁.heap = s.heap := by rw [B.state]; rfl
    have hsz : scr.slots.size = xs.length := by rw [← Array.length_toList, hlist, List.length_map]
    have hval : ∀ j : Nat, j < xs.length → scr.slots[j]? = some (.int (xs.getD j 0)) := fun j hj => by
      rw [← Array.getElem?_toList, hlist]
      simp [hj]
    have hbl : b < s.heap.size := (Array.getElem?_eq_some_iff.mp hcb).1
    have hX : va_X b xs.length (fun j => xs.getD j 0) s s.heap := ⟨scr, hcb, hof, hkn, hsz, hval⟩
    have K : W p l e room_1 s m #[Value.ref b] below meth c s₁.heap [] 0 0 (lw_Z below #[Value.ref b] s) (entryFrame m ([Value.ref b] : List Value).toArray 7) := by
      rw [hh0]
      exact whole_start l htr (name_of_methodNamed B.named B.method).1 hbd ⟨B.exec, B.bytes, B.returns, hml, hown, hts, hX, hbl, B.notSynchronized, hgv⟩
    obtain ⟨t, a1, o, b1, b2, b3⟩ := K s₁ rfl X₀
    exact ⟨t, o, a1, b1, b2, b3⟩
theorem lw_pre_spec {args : Array Value} {s : State} (h : (Jvm.Cond.and given_1 narrow_1).before args s = true) (hr : rest_1_c.before args s = true) : ∃ (b : Addr) (xs : List Int32), lw_P b xs args s := by
  have hs := flat_of_before _ h
  have hq := flat_of_before _ hr
  have hc : (Cond.count 1).before args s = true := hs _ (by decide +kernel)
  have harr : (Cond.arrayOf (.arg 0) .int).before args s = true := hs _ (by decide +kernel)
  have hle : (Cond.le (.length (.arg 0)) (.int 2048)).before args s = true := hs _ (by decide +kernel)
  have hlen : (Cond.isInt (.length (.arg 0))).before args s = true := hq _ (by decide +kernel)
  have hall : (Cond.all (.arg 0) (.isInt (.elem (.arg 0) (.index 0)))).before args s = true := hq _ (by decide +kernel)
  obtain ⟨b, xs, hb, hx⟩ := State.ints_of_pre rfl harr hlen hall
  have hsm : xs.length < 2 ^ 31 := hx.choose_spec.2.2.2
  have hev : (Term.length (.arg 0)).eval args s none [] s = some (.int xs.length.toInt32) := hx.length_eval hb
  have hv := Cond.le_ints hev (show (Term.int 2048).eval args s none [] s = some (.int 2048) from rfl)
  have hd : xs.length.toInt32 ≤ 2048 := by
    simpa [Cond.before, Cond.holds, hv] using hle
  have hN : xs.length ≤ 2048 := (Int32.ofNat_le_ofNat hsm (by decide)).mp (show Int32.ofNat xs.length ≤ Int32.ofNat 2048 from hd)
  exact ⟨b, xs, Cond.one_arg hc (show args[0]? = some (.ref b) from hb), hx, hN, h⟩
theorem lw_comes (l : Launch) (htr : l.stackTraces = false) : Comes l x (Jvm.Cond.code x code maxLocals ret :: tables_1) room_1 (fun tb e args s => Calls_1 tb e args s ∧ rest_1 tb e args s ∧ Pre_1 tb e args s)
    (fun _ _ args s o t => lw_Q args s o t) := by
  intro p e ha hc hk s m args below hf hfit hheap happ hpre
  obtain ⟨b, xs, hP⟩ := lw_pre_spec hpre.2.2 hpre.2.1
  obtain ⟨k, o, h1, h2, h3, hQ⟩ := lw_walk l htr b xs p e ha hc hk s m args below hf ((Spec.applies_iff_loose hf).mp happ).1 hP trivial
  exact ⟨k, o, h1, h2, h3, hQ⟩
theorem lw_frame {s t : State} {o : Outcome} {args : Array Value} (h : Framed s o t [] 601024 7293034) :
    Framed s o t (fieldLocs frame_1_writes args s ++ arrayLocs frame_1_arrays args s ++ staticLocs frame_1_statics s) 601024 7293034 := h
theorem lw_limb (L : Cond) (hL : ∀ (args : Array Value) (s t : State), L.after args s (.returned (some (.int 1))) t = true) :
    ArmFor flags0 classFile x code maxLocals ret World_1 tables_1 room_1 Calls_1 rest_1 Pre_1
      (fun tb e a s o t => postC L tb e a s o t ∧ Framed s o t (fieldLocs frame_1_writes a s ++ arrayLocs frame_1_arrays a s ++ staticLocs frame_1_statics s) 601024 7293034) := by
  intro l hfl _ _ p e ha hc hk s m args below hf hfit hheap happ hpre
  obtain ⟨k, o, h1, h2, h3, rfl, hF⟩ := lw_comes l (by unfold Launch.stackTraces; rw [hfl]; decide) p e ha hc hk s m args below hf hfit hheap happ hpre
  exact ⟨k, _, h1, h2, h3, hL args s _, lw_frame hF⟩
theorem i_vc : Claimed_1_1 ∧ Claimed_1_2 := ⟨lw_limb limb_1_1 (fun args s t => by simp [limb_1_1, Cond.after, Cond.holds, Cond.value]), lw_limb limb_1_2 (fun args s t => Cond.after_iff.mpr (by
  first | (rw [show limb_1_2 = Cond.eq .result (.int 1) from rfl, Cond.eq_ints (x := 1) (y := 1) rfl rfl]; simp; done) | (simp [limb_1_2, Cond.value, Term.eval]; done)))⟩
