/-! A program logic of its own over the kit's W: fx_Y says that from this place in this method, with these locals, this stack and this heap (a function from addresses to what stands there), the method comes to its end as K (its answer, the heap) or KX (what it threw, the heap) say. -/
def fx_ws : List Cond := lw_tbl.filter goodWord
/-- a method: its name, its code, how many locals, its answer's type -/
abbrev fx_M : Type := MethodName × ByteArray × Nat × Option FieldType
/-- a cell: an array (number of its type, contents), or an object (number of its kind in vwCl, fields) -/
abbrev fx_E : Type := (Nat × vp_A) ⊕ (Nat × List Value)
abbrev fx_H : Type := Nat → Option fx_E
/-- where the kinds' classes and slots are, where the arrays' classes are, the first address that is ours; the law's script: where it lies, how long it is, what it holds -/
abbrev fx_G : Type := va_G × (Nat → ClassId) × Nat × (Nat × Nat × (Nat → Int32))
def fx_ty (t : Nat) : FieldType := match t with
  | 0 => .int
  | 1 => .byte
  | 2 => .boolean
  | 3 => .long
  | _ => .object RX3
def fx_at (g : fx_G) (a : Nat) (c : fx_E) (H : Heap) : Prop := match c with
  | .inl x => H[a]? = some (vp_cell (g.2.1 x.1) x.2)
  | .inr o => ∃ r : vw_C, vwCl[o.1]? = some r ∧ t_OB a (g.1.1 o.1) r.2.2 (g.1.2 o.1) H (vp_V o.2)
def fx_R (g : fx_G) (h : fx_H) (H : Heap) : Prop := (∀ (a : Nat) (c : fx_E), h a = some c → g.2.2.1 ≤ a ∧ fx_at g a c H) ∧ g.2.2.1 ≤ H.size
/-- FontDesk's constructor calls its nest mates' private constructors -/
def fx_N (U : State) : Prop := va_Nw (.methodLinkNest RX5 9 yX0_init "FontDesk") U ∧ va_Nw (.methodLinkNest RX5 24 yX1_init "FontDesk") U ∧ va_Nw (.methodLinkNest RX5 31 yX4_init "FontDesk") U ∧ va_AO RX3 U
theorem fx_N.moved {s U : State} (hW : s.WarmedH U.vm) (h : fx_N s) : fx_N U := ⟨va_Nw.warmM hW h.1, va_Nw.warmM hW h.2.1, va_Nw.warmM hW h.2.2.1, va_AO.moved hW.alike h.2.2.2⟩
def fx_K (g : fx_G) (U : State) : Prop := (∀ (c : Nat) (q : vw_C), vwCl[c]? = some q → u_Kn U q.1 q.2.1 q.2.2 (g.1.1 c) (g.1.2 c)) ∧ (∀ t : Nat, t < 5 → ArrOfT U (g.2.1 t) (fx_ty t) ∧ va_RA U (g.2.1 t) (fx_ty t)) ∧ fx_N U
theorem fx_K.moved {g : fx_G} {u U : State} (hW : u.WarmedH U.vm) (h : fx_K g u) : fx_K g U :=
  ⟨fun c q hq => u_Kn_moved hW.alike (h.1 c q hq), fun t ht => ⟨arrOfT_moved hW.alike (h.2.1 t ht).1, (h.2.1 t ht).2.moved hW.alike⟩, h.2.2.moved hW⟩
theorem fx_at.kept {g : fx_G} {a : Nat} {c : fx_E} {H H1 : Heap} (h : fx_at g a c H) (hq : H1[a]? = H[a]?) : fx_at g a c H1 := by
  cases c with
  | inl x => exact hq.trans h
  | inr o =>
    obtain ⟨r, h1, h2⟩ := h
    exact ⟨r, h1, h2.kept hq⟩
theorem fx_at.lt {g : fx_G} {a : Nat} {c : fx_E} {H : Heap} (h : fx_at g a c H) : a < H.size := by
  cases c with
  | inl x => exact (Array.getElem?_eq_some_iff.mp h).1
  | inr o =>
    obtain ⟨r, -, cell, h2, -⟩ := h
    exact (Array.getElem?_eq_some_iff.mp h2).1
theorem fx_R.kept {g : fx_G} {h : fx_H} {H H1 : Heap} (hR : fx_R g h H) (hz : H.size ≤ H1.size) (ho : ∀ q : Nat, q < H.size → H1[q]? = H[q]?) : fx_R g h H1 :=
  ⟨fun a c hc => ⟨(hR.1 a c hc).1, (hR.1 a c hc).2.kept (ho a (hR.1 a c hc).2.lt)⟩, Nat.le_trans hR.2 hz⟩
theorem fx_R.set {g : fx_G} {h : fx_H} {H H1 : Heap} {a : Nat} {c : fx_E} (hR : fx_R g h H) (ha : g.2.2.1 ≤ a) (hc : fx_at g a c H1) (hz : H.size ≤ H1.size) (ho : ∀ q : Nat, q ≠ a → q < H.size → H1[q]? = H[q]?) : fx_R g (va_up h a (some c)) H1 := by
  refine ⟨fun b e hb => ?_, Nat.le_trans hR.2 hz⟩
  by_cases hba : b = a
  · subst hba
    rw [va_up_self] at hb
    cases hb
    exact ⟨ha, hc⟩
  · rw [va_up_ne _ _ hba] at hb
    have h1 := hR.1 b e hb
    exact ⟨h1.1, h1.2.kept (ho b hba h1.2.lt)⟩
theorem fx_R.fresh {g : fx_G} {h : fx_H} {H : Heap} (hR : fx_R g h H) : h H.size = none := by
  cases hc : h H.size with
  | none => rfl
  | some c => exact absurd (hR.1 _ _ hc).2.lt (Nat.lt_irrefl _)
/-- what a method's end says -/
def fx_Qc (g : fx_G) (K : Option Value → fx_H → Prop) : Array Value → State → Outcome → State → Prop := fun _ _ o t => ∃ (r : Option Value) (h : fx_H), o = .returned r ∧ K r h ∧ fx_R g h t.heap
def fx_XC (g : fx_G) (KX : String → fx_H → Prop) : String → State → State → Prop := fun E _ t => ∃ h : fx_H, KX E h ∧ fx_R g h t.heap
/-- what stands still in the methods that throw, in the law's helpers, in the law: launch, two statics of Throwable, the texts, the classes that are thrown -/
def fx_strs : List (Nat × String) := [(50, "no such size, or no room for a font"), (77, "the file is refused"), (94, "no such font, character or what"), (101, "no such font or parameter"), (114, "no such font"), (116, "the draft is no word of this font"), (121, "the word grows too long, or takes too long")]
def fx_iae : String := "java/lang/IllegalArgumentException"
def fx_ise : String := "java/lang/IllegalStateException"
def fx_ioo : String := "java/lang/IndexOutOfBoundsException"
def fx_Z (g : fx_G) (l : Launch) (s : State) : Prop := l.stackTraces = false ∧ vx_Zq Bundle.tN "UNASSIGNED_STACK" Bundle.steD (fun q => g.2.2.1 ≤ q) s s.heap ∧ vx_Zq Bundle.tN "SUPPRESSED_SENTINEL" Bundle.listD (fun q => g.2.2.1 ≤ q) s s.heap ∧ (∀ q ∈ fx_strs, ∃ a : Nat, vk_R "FontDesk" q.1 q.2 a s) ∧ (va_Nw (.castable fx_iae fx_iae) s ∧ va_Nw (.castable fx_ise fx_ise) s ∧ va_Nw (.castable fx_ioo fx_ioo) s) ∧ (va_Nc fx_ise fx_iae s ∧ va_Nc fx_iae fx_ioo s ∧ va_Nc fx_ise fx_ioo s) ∧ (va_Nw (.declares (Bundle.initS "java/lang/RuntimeException")) s ∧ va_Nw (.declares (Bundle.initS "java/lang/Exception")) s ∧ va_Nw (.declares (Bundle.initS Bundle.tN)) s)
theorem fx_Z.moved {g : fx_G} {l : Launch} {s U : State} (hW : s.WarmedH U.vm) (hq : ∀ a : Nat, a < s.heap.size → ¬ g.2.2.1 ≤ a → U.heap[a]? = s.heap[a]?) (h : fx_Z g l s) : fx_Z g l U :=
  ⟨h.1, (h.2.1.kept hq).moved hW.alike, (h.2.2.1.kept hq).moved hW.alike, fun q hm => (h.2.2.2.1 q hm).elim (fun a ha => ⟨a, ha.warm hW⟩), ⟨va_Nw.warmC hW h.2.2.2.2.1.1, va_Nw.warmC hW h.2.2.2.2.1.2.1, va_Nw.warmC hW h.2.2.2.2.1.2.2⟩, ⟨h.2.2.2.2.2.1.1.moved hW.alike, h.2.2.2.2.2.1.2.1.moved hW.alike, h.2.2.2.2.2.1.2.2.moved hW.alike⟩, ⟨va_Nw.warmD hW h.2.2.2.2.2.2.1, va_Nw.warmD hW h.2.2.2.2.2.2.2.1, va_Nw.warmD hW h.2.2.2.2.2.2.2.2⟩⟩
def fx_kd (y : MethodName) : Nat := if y.cls = "FontDesk" then (if y.name = "load" ∨ y.name = "metric" ∨ y.name = "parameter" ∨ y.name = "set" then 1 else 0) else if y.cls = "FontDeskLaw" then (if y.name = "law" then 3 else 2) else 0
def fx_tb (y : MethodName) : List (Nat × Nat × Nat × Nat) := if y.name = "load" then [(0, 9, 12, 13), (0, 9, 15, 15)] else if y.name = "metric" then [(0, 12, 15, 21)] else if y.name = "parameter" then [(0, 10, 13, 21)] else [(0, 9, 12, 21), (0, 9, 15, 13), (0, 9, 18, 15)]
def fx_Ex (g : fx_G) (l : Launch) (M : fx_M) (args : Array Value) (s : State) (c : Code) : Prop := match fx_kd M.1 with
  | 0 => True
  | 1 => fx_Z g l s ∧ ∀ x ∈ c.exceptionTable.toList, False
  | 2 => fx_Z g l s ∧ c.exceptionTable.toList = tableOf (fx_tb M.1)
  | _ => fx_Z g l s ∧ args = #[.ref g.2.2.2.1] ∧ va_X g.2.2.2.1 g.2.2.2.2.1 g.2.2.2.2.2 s s.heap ∧ g.2.2.2.1 < g.2.2.1
theorem fx_Ex.of0 {g : fx_G} {l : Launch} {M : fx_M} {args : Array Value} {s : State} {c : Code} (h : fx_kd M.1 = 0) : fx_Ex g l M args s c := by
  unfold fx_Ex
  rw [h]
  trivial
theorem fx_Ex.of1 {g : fx_G} {l : Launch} {M : fx_M} {args : Array Value} {s : State} {c : Code} (h : fx_kd M.1 = 1) : fx_Ex g l M args s c = (fx_Z g l s ∧ ∀ x ∈ c.exceptionTable.toList, False) := by
  unfold fx_Ex
  rw [h]
  rfl
theorem fx_Ex.of2 {g : fx_G} {l : Launch} {M : fx_M} {args : Array Value} {s : State} {c : Code} (h : fx_kd M.1 = 2) : fx_Ex g l M args s c = (fx_Z g l s ∧ c.exceptionTable.toList = tableOf (fx_tb M.1)) := by
  unfold fx_Ex
  rw [h]
  rfl
theorem fx_Ex.of3 {g : fx_G} {l : Launch} {M : fx_M} {args : Array Value} {s : State} {c : Code} (h : fx_kd M.1 = 3) : fx_Ex g l M args s c = (fx_Z g l s ∧ args = #[.ref g.2.2.2.1] ∧ va_X g.2.2.2.1 g.2.2.2.2.1 g.2.2.2.2.2 s s.heap ∧ g.2.2.2.1 < g.2.2.1) := by
  unfold fx_Ex
  rw [h]
  rfl
/-- what stands still in a method -/
def fx_C (g : fx_G) (M : fx_M) (d lo : Nat) (p : Program) (l : Launch) (R : Room) (s : State) (m : MethodId) (args : Array Value) (meth : Method) (c : Code) : Prop :=
  p.tables.exec = Jvm.exec ∧ c.code = M.2.1 ∧ c.maxLocals = M.2.2.1 ∧ meth.sig.returnType = M.2.2.2 ∧ meth.locks = false ∧ s.vm.findClass M.1.cls = some m.cls ∧ meth.name = M.1.name ∧ (∀ w ∈ fx_ws, w.before args s = true) ∧ fx_K g s ∧ d ≤ R.frames ∧ lo ≤ R.locals ∧ g.2.2.1 ≤ s.heap.size ∧ fx_Ex g l M args s c
def fx_Y (g : fx_G) (M : fx_M) (d lo : Nat) (K : Option Value → fx_H → Prop) (KX : String → fx_H → Prop) (pc : Nat) (lv : List (Nat × Value)) (st : List Value) (h : fx_H) (cu su : Nat) : Prop :=
  ∀ (p : Program) (l : Launch) (e : Env) (R : Room) (s : State) (m : MethodId) (args : Array Value) (below : List Frame) (meth : Method) (c : Code) (H : Heap) (locs : List Loc) (cells slots : Nat) (ls : Array Slot),
    fx_C g M d lo p l R s m args meth c → fx_R g h H → lv_has ls M.2.2.1 lv → cells + cu ≤ R.cells → slots + su ≤ R.slots → (∀ q ∈ locs, g.2.2.1 ≤ q.base) →
    W p l e R s m args below meth c H locs cells slots (vx_MQ below (fx_Qc g K) (fx_XC g KX) args s R.cells R.slots (fun q => g.2.2.1 ≤ q)) (F0 m pc ls st)
theorem fx_C.x {g : fx_G} {M : fx_M} {d lo : Nat} {p : Program} {l : Launch} {R : Room} {s : State} {m : MethodId} {args : Array Value} {meth : Method} {c : Code} (h : fx_C g M d lo p l R s m args meth c) : p.tables.exec = Jvm.exec := h.1
theorem fx_C.b {g : fx_G} {M : fx_M} {d lo : Nat} {p : Program} {l : Launch} {R : Room} {s : State} {m : MethodId} {args : Array Value} {meth : Method} {c : Code} (h : fx_C g M d lo p l R s m args meth c) : c.code = M.2.1 := h.2.1
theorem fx_C.ml {g : fx_G} {M : fx_M} {d lo : Nat} {p : Program} {l : Launch} {R : Room} {s : State} {m : MethodId} {args : Array Value} {meth : Method} {c : Code} (h : fx_C g M d lo p l R s m args meth c) : c.maxLocals = M.2.2.1 := h.2.2.1
theorem fx_C.r {g : fx_G} {M : fx_M} {d lo : Nat} {p : Program} {l : Launch} {R : Room} {s : State} {m : MethodId} {args : Array Value} {meth : Method} {c : Code} (h : fx_C g M d lo p l R s m args meth c) : meth.sig.returnType = M.2.2.2 := h.2.2.2.1
theorem fx_C.lk {g : fx_G} {M : fx_M} {d lo : Nat} {p : Program} {l : Launch} {R : Room} {s : State} {m : MethodId} {args : Array Value} {meth : Method} {c : Code} (h : fx_C g M d lo p l R s m args meth c) : meth.locks = false := h.2.2.2.2.1
theorem fx_C.own {g : fx_G} {M : fx_M} {d lo : Nat} {p : Program} {l : Launch} {R : Room} {s : State} {m : MethodId} {args : Array Value} {meth : Method} {c : Code} (h : fx_C g M d lo p l R s m args meth c) : s.vm.findClass M.1.cls = some m.cls := h.2.2.2.2.2.1
theorem fx_C.nm {g : fx_G} {M : fx_M} {d lo : Nat} {p : Program} {l : Launch} {R : Room} {s : State} {m : MethodId} {args : Array Value} {meth : Method} {c : Code} (h : fx_C g M d lo p l R s m args meth c) : meth.name = M.1.name := h.2.2.2.2.2.2.1
theorem fx_C.ts {g : fx_G} {M : fx_M} {d lo : Nat} {p : Program} {l : Launch} {R : Room} {s : State} {m : MethodId} {args : Array Value} {meth : Method} {c : Code} (h : fx_C g M d lo p l R s m args meth c) : ∀ w ∈ fx_ws, w.before args s = true := h.2.2.2.2.2.2.2.1
theorem fx_C.k {g : fx_G} {M : fx_M} {d lo : Nat} {p : Program} {l : Launch} {R : Room} {s : State} {m : MethodId} {args : Array Value} {meth : Method} {c : Code} (h : fx_C g M d lo p l R s m args meth c) : fx_K g s := h.2.2.2.2.2.2.2.2.1
theorem fx_C.d {g : fx_G} {M : fx_M} {d lo : Nat} {p : Program} {l : Launch} {R : Room} {s : State} {m : MethodId} {args : Array Value} {meth : Method} {c : Code} (h : fx_C g M d lo p l R s m args meth c) : d ≤ R.frames := h.2.2.2.2.2.2.2.2.2.1
theorem fx_C.lo {g : fx_G} {M : fx_M} {d lo : Nat} {p : Program} {l : Launch} {R : Room} {s : State} {m : MethodId} {args : Array Value} {meth : Method} {c : Code} (h : fx_C g M d lo p l R s m args meth c) : lo ≤ R.locals := h.2.2.2.2.2.2.2.2.2.2.1
theorem fx_C.hp {g : fx_G} {M : fx_M} {d lo : Nat} {p : Program} {l : Launch} {R : Room} {s : State} {m : MethodId} {args : Array Value} {meth : Method} {c : Code} (h : fx_C g M d lo p l R s m args meth c) : g.2.2.1 ≤ s.heap.size := h.2.2.2.2.2.2.2.2.2.2.2.1
theorem fx_C.ex {g : fx_G} {M : fx_M} {d lo : Nat} {p : Program} {l : Launch} {R : Room} {s : State} {m : MethodId} {args : Array Value} {meth : Method} {c : Code} (h : fx_C g M d lo p l R s m args meth c) : fx_Ex g l M args s c := h.2.2.2.2.2.2.2.2.2.2.2.2
/-- locals: what is read, and how a store changes them -/
theorem fx_lv {ls : Array Slot} {nL i : Nat} {v : Value} {lv : List (Nat × Value)} (hl : lv_has ls nL lv) (h : lv.lookup i = some v) : ls[i]? = some (.val v) := by
  have hm : (i, v) ∈ lv := by
    clear hl
    induction lv with
    | nil => cases h
    | cons q r ih =>
      rw [List.lookup_cons] at h
      by_cases hq : i = q.1
      · subst hq
        simp at h
        subst h
        exact List.mem_cons_self
      · have hb : (i == q.1) = false := by simpa using hq
        rw [hb] at h
        exact List.mem_cons_of_mem _ (ih h)
  exact hl.2.2 _ hm
def fx_s1 (lv : List (Nat × Value)) (i : Nat) (v : Value) : List (Nat × Value) := (i, v) :: lv.filter (fun q => !(q.1 == i) && !(q.1 + 1 == i && q.2.category == 2))
def fx_s2 (lv : List (Nat × Value)) (i : Nat) (v : Value) : List (Nat × Value) := (i, v) :: lv.filter (fun q => !(q.1 == i) && (!(q.1 == i + 1) && !(q.1 + 1 == i && q.2.category == 2)))
def fx_le : List (Nat × Value) → List (Nat × Value) → Prop
  | [], _ => True
  | q :: r, lv => lv.lookup q.1 = some q.2 ∧ fx_le r lv
theorem fx_le.mem {a b : List (Nat × Value)} (h : fx_le a b) : ∀ q ∈ a, b.lookup q.1 = some q.2 := by
  induction a with
  | nil => intro q hq; cases hq
  | cons x r ih =>
    intro q hq
    rcases List.mem_cons.mp hq with rfl | hq
    · exact h.1
    · exact ih h.2 q hq
theorem fx_le.has {a b : List (Nat × Value)} {ls : Array Slot} {nL : Nat} (h : fx_le a b) (hl : lv_has ls nL b) : lv_has ls nL a :=
  ⟨hl.1, hl.2.1, fun q hq => fx_lv hl (h.mem q hq)⟩
section FXR
variable {g : fx_G} {M : fx_M} {d lo : Nat} {K : Option Value → fx_H → Prop} {KX : String → fx_H → Prop} {pc : Nat} {lv : List (Nat × Value)} {st : List Value} {h : fx_H} {cu su : Nat}
theorem fx_sub (lv' : List (Nat × Value)) (hl : fx_le lv' lv) (k : fx_Y g M d lo K KX pc lv' st h cu su) : fx_Y g M d lo K KX pc lv st h cu su :=
  fun p l e R s m args below meth c H locs cells slots ls hC hR hls h1 h2 h3 => k p l e R s m args below meth c H locs cells slots ls hC hR (hl.has hls) h1 h2 h3
theorem fx_less {cu' su' : Nat} (h1 : cu' ≤ cu) (h2 : su' ≤ su) (k : fx_Y g M d lo K KX pc lv st h cu' su') : fx_Y g M d lo K KX pc lv st h cu su :=
  fun p l e R s m args below meth c H locs cells slots ls hC hR hls q1 q2 h3 => k p l e R s m args below meth c H locs cells slots ls hC hR hls (by omega) (by omega) h3
/-- a smaller heap is enough -/
theorem fx_heap {h' : fx_H} (hh : ∀ a c, h' a = some c → h a = some c) (k : fx_Y g M d lo K KX pc lv st h' cu su) : fx_Y g M d lo K KX pc lv st h cu su :=
  fun p l e R s m args below meth c H locs cells slots ls hC hR hls q1 q2 h3 => k p l e R s m args below meth c H locs cells slots ls hC ⟨fun a c hc => hR.1 a c (hh a c hc), hR.2⟩ hls q1 q2 h3
theorem fx_mono {K' : Option Value → fx_H → Prop} {KX' : String → fx_H → Prop} (hK : ∀ r h, K r h → K' r h) (hX : ∀ E h, KX E h → KX' E h) (k : fx_Y g M d lo K KX pc lv st h cu su) : fx_Y g M d lo K' KX' pc lv st h cu su := by
  intro p l e R s m args below meth c H locs cells slots ls hC hR hls q1 q2 h3 T hT X
  obtain ⟨t, a1, o, b1, b2, b3⟩ := k p l e R s m args below meth c H locs cells slots ls hC hR hls q1 q2 h3 T hT X
  refine ⟨t, a1, o, b1, b2, ?_⟩
  rcases b3 with ⟨⟨r, h', e1, e2, e3⟩, e4⟩ | ⟨q, e1, E, ce, L, ⟨h', e2, e3⟩, e4⟩
  · exact Or.inl ⟨⟨r, h', e1, hK _ _ e2, e3⟩, e4⟩
  · exact Or.inr ⟨q, e1, E, ce, L, ⟨h', hX _ _ e2, e3⟩, e4⟩

theorem fx_iadd {x y : Int32} (hd : decode M.2.1 pc = .ok (.iadd, 1)) (k : fx_Y g M d lo K KX (pc + 1) lv (.int (x + y) :: st) h cu su) : fx_Y g M d lo K KX pc lv (.int y :: .int x :: st) h cu su := by
  intro p l e R s m args below meth c H locs cells slots ls hC hR hl h1 h2 h3
  exact lv_iadd hC.x hC.b hd (k p l e R s m args below meth c H locs cells slots ls hC hR hl h1 h2 h3)
theorem fx_isub {x y : Int32} (hd : decode M.2.1 pc = .ok (.isub, 1)) (k : fx_Y g M d lo K KX (pc + 1) lv (.int (x - y) :: st) h cu su) : fx_Y g M d lo K KX pc lv (.int y :: .int x :: st) h cu su := by
  intro p l e R s m args below meth c H locs cells slots ls hC hR hl h1 h2 h3
  exact lv_isub hC.x hC.b hd (k p l e R s m args below meth c H locs cells slots ls hC hR hl h1 h2 h3)
theorem fx_imul {x y : Int32} (hd : decode M.2.1 pc = .ok (.imul, 1)) (k : fx_Y g M d lo K KX (pc + 1) lv (.int (x * y) :: st) h cu su) : fx_Y g M d lo K KX pc lv (.int y :: .int x :: st) h cu su := by
  intro p l e R s m args below meth c H locs cells slots ls hC hR hl h1 h2 h3
  exact lv_imul hC.x hC.b hd (k p l e R s m args below meth c H locs cells slots ls hC hR hl h1 h2 h3)
theorem fx_iand {x y : Int32} (hd : decode M.2.1 pc = .ok (.iand, 1)) (k : fx_Y g M d lo K KX (pc + 1) lv (.int (x &&& y) :: st) h cu su) : fx_Y g M d lo K KX pc lv (.int y :: .int x :: st) h cu su := by
  intro p l e R s m args below meth c H locs cells slots ls hC hR hl h1 h2 h3
  exact lv_iand hC.x hC.b hd (k p l e R s m args below meth c H locs cells slots ls hC hR hl h1 h2 h3)
theorem fx_ior {x y : Int32} (hd : decode M.2.1 pc = .ok (.ior, 1)) (k : fx_Y g M d lo K KX (pc + 1) lv (.int (x ||| y) :: st) h cu su) : fx_Y g M d lo K KX pc lv (.int y :: .int x :: st) h cu su := by
  intro p l e R s m args below meth c H locs cells slots ls hC hR hl h1 h2 h3
  exact lv_ior hC.x hC.b hd (k p l e R s m args below meth c H locs cells slots ls hC hR hl h1 h2 h3)
theorem fx_ixor {x y : Int32} (hd : decode M.2.1 pc = .ok (.ixor, 1)) (k : fx_Y g M d lo K KX (pc + 1) lv (.int (x ^^^ y) :: st) h cu su) : fx_Y g M d lo K KX pc lv (.int y :: .int x :: st) h cu su := by
  intro p l e R s m args below meth c H locs cells slots ls hC hR hl h1 h2 h3
  exact lv_ixor hC.x hC.b hd (k p l e R s m args below meth c H locs cells slots ls hC hR hl h1 h2 h3)
theorem fx_ishl {x y : Int32} (hd : decode M.2.1 pc = .ok (.ishl, 1)) (k : fx_Y g M d lo K KX (pc + 1) lv (.int (x <<< (y &&& 31)) :: st) h cu su) : fx_Y g M d lo K KX pc lv (.int y :: .int x :: st) h cu su := by
  intro p l e R s m args below meth c H locs cells slots ls hC hR hl h1 h2 h3
  exact lv_ishl hC.x hC.b hd (k p l e R s m args below meth c H locs cells slots ls hC hR hl h1 h2 h3)
theorem fx_ishr {x y : Int32} (hd : decode M.2.1 pc = .ok (.ishr, 1)) (k : fx_Y g M d lo K KX (pc + 1) lv (.int (x >>> (y &&& 31)) :: st) h cu su) : fx_Y g M d lo K KX pc lv (.int y :: .int x :: st) h cu su := by
  intro p l e R s m args below meth c H locs cells slots ls hC hR hl h1 h2 h3
  exact lv_ishr hC.x hC.b hd (k p l e R s m args below meth c H locs cells slots ls hC hR hl h1 h2 h3)
theorem fx_iushr {x y : Int32} (hd : decode M.2.1 pc = .ok (.iushr, 1)) (k : fx_Y g M d lo K KX (pc + 1) lv (.int ((x.toUInt32 >>> (y.toUInt32 &&& Int32.toUInt32 31)).toInt32) :: st) h cu su) : fx_Y g M d lo K KX pc lv (.int y :: .int x :: st) h cu su := by
  intro p l e R s m args below meth c H locs cells slots ls hC hR hl h1 h2 h3
  exact lv_iushr hC.x hC.b hd rfl (k p l e R s m args below meth c H locs cells slots ls hC hR hl h1 h2 h3)
theorem fx_ladd {x y : Int64} (hd : decode M.2.1 pc = .ok (.ladd, 1)) (k : fx_Y g M d lo K KX (pc + 1) lv (.long (x + y) :: st) h cu su) : fx_Y g M d lo K KX pc lv (.long y :: .long x :: st) h cu su := by
  intro p l e R s m args below meth c H locs cells slots ls hC hR hl h1 h2 h3
  exact lv_ladd hC.x hC.b hd (k p l e R s m args below meth c H locs cells slots ls hC hR hl h1 h2 h3)
theorem fx_lsub {x y : Int64} (hd : decode M.2.1 pc = .ok (.lsub, 1)) (k : fx_Y g M d lo K KX (pc + 1) lv (.long (x - y) :: st) h cu su) : fx_Y g M d lo K KX pc lv (.long y :: .long x :: st) h cu su := by
  intro p l e R s m args below meth c H locs cells slots ls hC hR hl h1 h2 h3
  exact lv_lsub hC.x hC.b hd (k p l e R s m args below meth c H locs cells slots ls hC hR hl h1 h2 h3)
theorem fx_lmul {x y : Int64} (hd : decode M.2.1 pc = .ok (.lmul, 1)) (k : fx_Y g M d lo K KX (pc + 1) lv (.long (x * y) :: st) h cu su) : fx_Y g M d lo K KX pc lv (.long y :: .long x :: st) h cu su := by
  intro p l e R s m args below meth c H locs cells slots ls hC hR hl h1 h2 h3
  exact lv_lmul hC.x hC.b hd (k p l e R s m args below meth c H locs cells slots ls hC hR hl h1 h2 h3)
theorem fx_land {x y : Int64} (hd : decode M.2.1 pc = .ok (.land, 1)) (k : fx_Y g M d lo K KX (pc + 1) lv (.long (x &&& y) :: st) h cu su) : fx_Y g M d lo K KX pc lv (.long y :: .long x :: st) h cu su := by
  intro p l e R s m args below meth c H locs cells slots ls hC hR hl h1 h2 h3
  exact lv_land hC.x hC.b hd (k p l e R s m args below meth c H locs cells slots ls hC hR hl h1 h2 h3)
theorem fx_lor {x y : Int64} (hd : decode M.2.1 pc = .ok (.lor, 1)) (k : fx_Y g M d lo K KX (pc + 1) lv (.long (x ||| y) :: st) h cu su) : fx_Y g M d lo K KX pc lv (.long y :: .long x :: st) h cu su := by
  intro p l e R s m args below meth c H locs cells slots ls hC hR hl h1 h2 h3
  exact lv_lor hC.x hC.b hd (k p l e R s m args below meth c H locs cells slots ls hC hR hl h1 h2 h3)
theorem fx_lshl {x : Int64} {y : Int32} (hd : decode M.2.1 pc = .ok (.lshl, 1)) (k : fx_Y g M d lo K KX (pc + 1) lv (.long (x <<< (y.toInt64 &&& 63)) :: st) h cu su) : fx_Y g M d lo K KX pc lv (.int y :: .long x :: st) h cu su := by
  intro p l e R s m args below meth c H locs cells slots ls hC hR hl h1 h2 h3
  exact lv_lshl hC.x hC.b hd rfl (k p l e R s m args below meth c H locs cells slots ls hC hR hl h1 h2 h3)
theorem fx_lshr {x : Int64} {y : Int32} (hd : decode M.2.1 pc = .ok (.lshr, 1)) (k : fx_Y g M d lo K KX (pc + 1) lv (.long (x >>> (y.toInt64 &&& 63)) :: st) h cu su) : fx_Y g M d lo K KX pc lv (.int y :: .long x :: st) h cu su := by
  intro p l e R s m args below meth c H locs cells slots ls hC hR hl h1 h2 h3
  exact lv_lshr hC.x hC.b hd rfl (k p l e R s m args below meth c H locs cells slots ls hC hR hl h1 h2 h3)
theorem fx_idiv {x y : Int32} (hd : decode M.2.1 pc = .ok (.idiv, 1)) (hne : ¬ y = 0) (k : fx_Y g M d lo K KX (pc + 1) lv (.int (x / y) :: st) h cu su) : fx_Y g M d lo K KX pc lv (.int y :: .int x :: st) h cu su := by
  intro p l e R s m args below meth c H locs cells slots ls hC hR hl h1 h2 h3
  exact lv_idiv hC.x hC.b hd hne (k p l e R s m args below meth c H locs cells slots ls hC hR hl h1 h2 h3)
theorem fx_irem {x y : Int32} (hd : decode M.2.1 pc = .ok (.irem, 1)) (hne : ¬ y = 0) (k : fx_Y g M d lo K KX (pc + 1) lv (.int (x - x / y * y) :: st) h cu su) : fx_Y g M d lo K KX pc lv (.int y :: .int x :: st) h cu su := by
  intro p l e R s m args below meth c H locs cells slots ls hC hR hl h1 h2 h3
  exact lv_irem hC.x hC.b hd hne (k p l e R s m args below meth c H locs cells slots ls hC hR hl h1 h2 h3)
theorem fx_i2l {x : Int32} (hd : decode M.2.1 pc = .ok (.i2l, 1)) (k : fx_Y g M d lo K KX (pc + 1) lv (.long x.toInt64 :: st) h cu su) : fx_Y g M d lo K KX pc lv (.int x :: st) h cu su := by
  intro p l e R s m args below meth c H locs cells slots ls hC hR hl h1 h2 h3
  exact lv_i2l hC.x hC.b hd rfl (k p l e R s m args below meth c H locs cells slots ls hC hR hl h1 h2 h3)
theorem fx_l2i {x : Int64} (hd : decode M.2.1 pc = .ok (.l2i, 1)) (k : fx_Y g M d lo K KX (pc + 1) lv (.int x.toInt32 :: st) h cu su) : fx_Y g M d lo K KX pc lv (.long x :: st) h cu su := by
  intro p l e R s m args below meth c H locs cells slots ls hC hR hl h1 h2 h3
  exact lv_l2i hC.x hC.b hd rfl (k p l e R s m args below meth c H locs cells slots ls hC hR hl h1 h2 h3)
theorem fx_i2b {x : Int32} (hd : decode M.2.1 pc = .ok (.i2b, 1)) (k : fx_Y g M d lo K KX (pc + 1) lv (.int x.toInt8.toInt32 :: st) h cu su) : fx_Y g M d lo K KX pc lv (.int x :: st) h cu su := by
  intro p l e R s m args below meth c H locs cells slots ls hC hR hl h1 h2 h3
  exact lv_i2b hC.x hC.b hd rfl (k p l e R s m args below meth c H locs cells slots ls hC hR hl h1 h2 h3)
theorem fx_null  (hd : decode M.2.1 pc = .ok (.aconst_null, 1)) (k : fx_Y g M d lo K KX (pc + 1) lv (.null :: st) h cu su) : fx_Y g M d lo K KX pc lv st h cu su := by
  intro p l e R s m args below meth c H locs cells slots ls hC hR hl h1 h2 h3
  exact lv_null hC.x hC.b hd (k p l e R s m args below meth c H locs cells slots ls hC hR hl h1 h2 h3)
theorem fx_dup {v : Value} (hd : decode M.2.1 pc = .ok (.dup, 1)) (hv : v.category = 1) (k : fx_Y g M d lo K KX (pc + 1) lv (v :: v :: st) h cu su) : fx_Y g M d lo K KX pc lv (v :: st) h cu su := by
  intro p l e R s m args below meth c H locs cells slots ls hC hR hl h1 h2 h3
  exact lv_dup hC.x hC.b hd hv (k p l e R s m args below meth c H locs cells slots ls hC hR hl h1 h2 h3)
theorem fx_pop {v : Value} (hd : decode M.2.1 pc = .ok (.pop, 1)) (hv : v.category = 1) (k : fx_Y g M d lo K KX (pc + 1) lv st h cu su) : fx_Y g M d lo K KX pc lv (v :: st) h cu su := by
  intro p l e R s m args below meth c H locs cells slots ls hC hR hl h1 h2 h3
  exact lv_pop hC.x hC.b hd hv (k p l e R s m args below meth c H locs cells slots ls hC hR hl h1 h2 h3)
theorem fx_dup2 {v u : Value} (hd : decode M.2.1 pc = .ok (.dup2, 1)) (hv : v.category = 1) (hu : u.category = 1) (k : fx_Y g M d lo K KX (pc + 1) lv (v :: u :: v :: u :: st) h cu su) : fx_Y g M d lo K KX pc lv (v :: u :: st) h cu su := by
  intro p l e R s m args below meth c H locs cells slots ls hC hR hl h1 h2 h3
  exact lv_dup2_11 hC.x hC.b hd hv hu (k p l e R s m args below meth c H locs cells slots ls hC hR hl h1 h2 h3)
theorem fx_dup_x1 {v u : Value} (hd : decode M.2.1 pc = .ok (.dup_x1, 1)) (hv : v.category = 1) (hu : u.category = 1) (k : fx_Y g M d lo K KX (pc + 1) lv (v :: u :: v :: st) h cu su) : fx_Y g M d lo K KX pc lv (v :: u :: st) h cu su := by
  intro p l e R s m args below meth c H locs cells slots ls hC hR hl h1 h2 h3
  exact lv_dup_x1 hC.x hC.b hd hv hu (k p l e R s m args below meth c H locs cells slots ls hC hR hl h1 h2 h3)
theorem fx_iconst {n : Int} (v : Int32) (hd : decode M.2.1 pc = .ok (.iconst n, 1)) (hv : Int32.ofInt n = v) (k : fx_Y g M d lo K KX (pc + 1) lv (.int v :: st) h cu su) : fx_Y g M d lo K KX pc lv st h cu su := by
  intro p l e R s m args below meth c H locs cells slots ls hC hR hl h1 h2 h3
  exact lv_iconst hC.x hC.b hd hv (k p l e R s m args below meth c H locs cells slots ls hC hR hl h1 h2 h3)
theorem fx_bipush {n : Int} (v : Int32) (hd : decode M.2.1 pc = .ok (.bipush n, 2)) (hv : (Int8.ofInt n).toInt32 = v) (k : fx_Y g M d lo K KX (pc + 2) lv (.int v :: st) h cu su) : fx_Y g M d lo K KX pc lv st h cu su := by
  intro p l e R s m args below meth c H locs cells slots ls hC hR hl h1 h2 h3
  exact lv_bipush hC.x hC.b hd hv (k p l e R s m args below meth c H locs cells slots ls hC hR hl h1 h2 h3)
theorem fx_sipush {n : Int} (v : Int32) (hd : decode M.2.1 pc = .ok (.sipush n, 3)) (hv : (Int16.ofInt n).toInt32 = v) (k : fx_Y g M d lo K KX (pc + 3) lv (.int v :: st) h cu su) : fx_Y g M d lo K KX pc lv st h cu su := by
  intro p l e R s m args below meth c H locs cells slots ls hC hR hl h1 h2 h3
  exact lv_sipush hC.x hC.b hd hv (k p l e R s m args below meth c H locs cells slots ls hC hR hl h1 h2 h3)
theorem fx_lconst {n : Fin 2} (v : Int64) (hd : decode M.2.1 pc = .ok (.lconst n, 1)) (hv : Int64.ofNat n = v) (k : fx_Y g M d lo K KX (pc + 1) lv (.long v :: st) h cu su) : fx_Y g M d lo K KX pc lv st h cu su := by
  intro p l e R s m args below meth c H locs cells slots ls hC hR hl h1 h2 h3
  exact lv_lconst hC.x hC.b hd hv (k p l e R s m args below meth c H locs cells slots ls hC hR hl h1 h2 h3)
theorem fx_ldc {i : Nat} {v : Int32} (hd : decode M.2.1 pc = .ok (.ldc i, 2)) (hw : Cond.constant M.1.cls i v ∈ fx_ws) (k : fx_Y g M d lo K KX (pc + 2) lv (.int v :: st) h cu su) : fx_Y g M d lo K KX pc lv st h cu su := by
  intro p l e R s m args below meth c H locs cells slots ls hC hR hl h1 h2 h3
  exact W.ldc hC.x hC.b hC.own (hC.ts _ hw) rfl hd (k p l e R s m args below meth c H locs cells slots ls hC hR hl h1 h2 h3)
theorem fx_ldc2 {i : Nat} {v : Int64} (hd : decode M.2.1 pc = .ok (.ldc2_w i, 3)) (hw : Cond.constantLong M.1.cls i v ∈ fx_ws) (k : fx_Y g M d lo K KX (pc + 3) lv (.long v :: st) h cu su) : fx_Y g M d lo K KX pc lv st h cu su := by
  intro p l e R s m args below meth c H locs cells slots ls hC hR hl h1 h2 h3
  exact W.ldc2 hC.x hC.b hC.own (hC.ts _ hw) rfl hd (k p l e R s m args below meth c H locs cells slots ls hC hR hl h1 h2 h3)
theorem fx_iload {i : Nat} {x : Int32} (hd : decode M.2.1 pc = .ok (.iload i, 2)) (hv : lv.lookup i = some (.int x)) (k : fx_Y g M d lo K KX (pc + 2) lv (.int x :: st) h cu su) : fx_Y g M d lo K KX pc lv st h cu su := by
  intro p l e R s m args below meth c H locs cells slots ls hC hR hl h1 h2 h3
  exact lv_iload hC.x hC.b hd (fx_lv hl hv) (k p l e R s m args below meth c H locs cells slots ls hC hR hl h1 h2 h3)
theorem fx_iloadn {i : Fin 4} {x : Int32} (hd : decode M.2.1 pc = .ok (.iload_n i, 1)) (hv : lv.lookup (i : Nat) = some (.int x)) (k : fx_Y g M d lo K KX (pc + 1) lv (.int x :: st) h cu su) : fx_Y g M d lo K KX pc lv st h cu su := by
  intro p l e R s m args below meth c H locs cells slots ls hC hR hl h1 h2 h3
  exact lv_iload_n hC.x hC.b hd rfl (fx_lv hl hv) (k p l e R s m args below meth c H locs cells slots ls hC hR hl h1 h2 h3)
theorem fx_istore {i : Nat} {x : Int32} (hd : decode M.2.1 pc = .ok (.istore i, 2)) (hi : i < M.2.2.1) (k : fx_Y g M d lo K KX (pc + 2) (fx_s1 lv i (.int x)) st h cu su) : fx_Y g M d lo K KX pc lv (.int x :: st) h cu su := by
  intro p l e R s m args below meth c H locs cells slots ls hC hR hl h1 h2 h3
  exact lv_istore hC.x hC.b hd hl hi rfl (fun ls' hl' => k p l e R s m args below meth c H locs cells slots ls' hC hR hl' h1 h2 h3)
theorem fx_istoren {i : Fin 4} {x : Int32} (hd : decode M.2.1 pc = .ok (.istore_n i, 1)) (hi : (i : Nat) < M.2.2.1) (k : fx_Y g M d lo K KX (pc + 1) (fx_s1 lv (i : Nat) (.int x)) st h cu su) : fx_Y g M d lo K KX pc lv (.int x :: st) h cu su := by
  intro p l e R s m args below meth c H locs cells slots ls hC hR hl h1 h2 h3
  exact lv_istore_n hC.x hC.b hd rfl hl hi rfl (fun ls' hl' => k p l e R s m args below meth c H locs cells slots ls' hC hR hl' h1 h2 h3)
theorem fx_lload {i : Nat} {x : Int64} (hd : decode M.2.1 pc = .ok (.lload i, 2)) (hv : lv.lookup i = some (.long x)) (k : fx_Y g M d lo K KX (pc + 2) lv (.long x :: st) h cu su) : fx_Y g M d lo K KX pc lv st h cu su := by
  intro p l e R s m args below meth c H locs cells slots ls hC hR hl h1 h2 h3
  exact lv_lload hC.x hC.b hd (fx_lv hl hv) (k p l e R s m args below meth c H locs cells slots ls hC hR hl h1 h2 h3)
theorem fx_lloadn {i : Fin 4} {x : Int64} (hd : decode M.2.1 pc = .ok (.lload_n i, 1)) (hv : lv.lookup (i : Nat) = some (.long x)) (k : fx_Y g M d lo K KX (pc + 1) lv (.long x :: st) h cu su) : fx_Y g M d lo K KX pc lv st h cu su := by
  intro p l e R s m args below meth c H locs cells slots ls hC hR hl h1 h2 h3
  exact lv_lload_n hC.x hC.b hd rfl (fx_lv hl hv) (k p l e R s m args below meth c H locs cells slots ls hC hR hl h1 h2 h3)
theorem fx_lstore {i : Nat} {x : Int64} (hd : decode M.2.1 pc = .ok (.lstore i, 2)) (hi : i + 1 < M.2.2.1) (k : fx_Y g M d lo K KX (pc + 2) (fx_s2 lv i (.long x)) st h cu su) : fx_Y g M d lo K KX pc lv (.long x :: st) h cu su := by
  intro p l e R s m args below meth c H locs cells slots ls hC hR hl h1 h2 h3
  exact lv_lstore hC.x hC.b hd hl hi rfl (fun ls' hl' => k p l e R s m args below meth c H locs cells slots ls' hC hR hl' h1 h2 h3)
theorem fx_lstoren {i : Fin 4} {x : Int64} (hd : decode M.2.1 pc = .ok (.lstore_n i, 1)) (hi : (i : Nat) + 1 < M.2.2.1) (k : fx_Y g M d lo K KX (pc + 1) (fx_s2 lv (i : Nat) (.long x)) st h cu su) : fx_Y g M d lo K KX pc lv (.long x :: st) h cu su := by
  intro p l e R s m args below meth c H locs cells slots ls hC hR hl h1 h2 h3
  exact lv_lstore_n hC.x hC.b hd rfl hl hi rfl (fun ls' hl' => k p l e R s m args below meth c H locs cells slots ls' hC hR hl' h1 h2 h3)
theorem fx_aload {i : Nat} {x : Nat} (hd : decode M.2.1 pc = .ok (.aload i, 2)) (hv : lv.lookup i = some (.ref x)) (k : fx_Y g M d lo K KX (pc + 2) lv (.ref x :: st) h cu su) : fx_Y g M d lo K KX pc lv st h cu su := by
  intro p l e R s m args below meth c H locs cells slots ls hC hR hl h1 h2 h3
  exact lv_aload hC.x hC.b hd (fx_lv hl hv) (k p l e R s m args below meth c H locs cells slots ls hC hR hl h1 h2 h3)
theorem fx_aloadn {i : Fin 4} {x : Nat} (hd : decode M.2.1 pc = .ok (.aload_n i, 1)) (hv : lv.lookup (i : Nat) = some (.ref x)) (k : fx_Y g M d lo K KX (pc + 1) lv (.ref x :: st) h cu su) : fx_Y g M d lo K KX pc lv st h cu su := by
  intro p l e R s m args below meth c H locs cells slots ls hC hR hl h1 h2 h3
  exact lv_aload_n hC.x hC.b hd rfl (fx_lv hl hv) (k p l e R s m args below meth c H locs cells slots ls hC hR hl h1 h2 h3)
theorem fx_astore {i : Nat} {x : Nat} (hd : decode M.2.1 pc = .ok (.astore i, 2)) (hi : i < M.2.2.1) (k : fx_Y g M d lo K KX (pc + 2) (fx_s1 lv i (.ref x)) st h cu su) : fx_Y g M d lo K KX pc lv (.ref x :: st) h cu su := by
  intro p l e R s m args below meth c H locs cells slots ls hC hR hl h1 h2 h3
  exact lv_astore hC.x hC.b hd hl hi rfl (fun ls' hl' => k p l e R s m args below meth c H locs cells slots ls' hC hR hl' h1 h2 h3)
theorem fx_astoren {i : Fin 4} {x : Nat} (hd : decode M.2.1 pc = .ok (.astore_n i, 1)) (hi : (i : Nat) < M.2.2.1) (k : fx_Y g M d lo K KX (pc + 1) (fx_s1 lv (i : Nat) (.ref x)) st h cu su) : fx_Y g M d lo K KX pc lv (.ref x :: st) h cu su := by
  intro p l e R s m args below meth c H locs cells slots ls hC hR hl h1 h2 h3
  exact lv_astore_n hC.x hC.b hd rfl hl hi rfl (fun ls' hl' => k p l e R s m args below meth c H locs cells slots ls' hC hR hl' h1 h2 h3)
theorem fx_iinc {i : Nat} {n : Int} {x : Int32} (v : Int32) (hd : decode M.2.1 pc = .ok (.iinc i n, 3)) (hv : lv.lookup i = some (.int x)) (hn : Int32.ofInt n = v) (hi : i < M.2.2.1) (k : fx_Y g M d lo K KX (pc + 3) (fx_s1 lv i (.int (x + v))) st h cu su) : fx_Y g M d lo K KX pc lv st h cu su := by
  intro p l e R s m args below meth c H locs cells slots ls hC hR hl h1 h2 h3
  subst hn
  have hx := fx_lv hl hv
  have hl0 : lv_has ls M.2.2.1 ((i, .int x) :: lv) := ⟨hl.1, hl.2.1, fun q hq => (List.mem_cons.mp hq).elim (fun e => by rw [e]; exact hx) (hl.2.2 q)⟩
  refine lv_iinc (k := 0) hC.x hC.b hd hl0 rfl rfl hi rfl (fun ls' hl' => k p l e R s m args below meth c H locs cells slots ls' hC hR ⟨hl'.1, hl'.2.1, fun q hq => hl'.2.2 q ?_⟩ h1 h2 h3)
  rcases List.mem_cons.mp hq with e | hq
  · rw [e]; exact List.mem_cons_self
  · refine List.mem_cons_of_mem _ ?_
    have h5 := List.mem_filter.mp hq
    exact List.mem_filter.mpr ⟨List.mem_cons_of_mem _ h5.1, h5.2⟩
theorem fx_goto {off : Int} (tgt : Nat) (hd : decode M.2.1 pc = .ok (.goto off, 3)) (ht : (pc : Int) + off = (tgt : Int)) (k : fx_Y g M d lo K KX tgt lv st h cu su) : fx_Y g M d lo K KX pc lv st h cu su := by
  intro p l e R s m args below meth c H locs cells slots ls hC hR hl h1 h2 h3
  exact lv_goto hC.x hC.b hd ht (k p l e R s m args below meth c H locs cells slots ls hC hR hl h1 h2 h3)
theorem fx_icmp_eq {x y : Int32} {off : Int} (tgt : Nat) (hd : decode M.2.1 pc = .ok (.if_icmp .eq off, 3)) (ht : (pc : Int) + off = (tgt : Int)) (kt : x = y → fx_Y g M d lo K KX tgt lv st h cu su) (kf : ¬ x = y → fx_Y g M d lo K KX (pc + 3) lv st h cu su) : fx_Y g M d lo K KX pc lv (.int y :: .int x :: st) h cu su := by
  intro p l e R s m args below meth c H locs cells slots ls hC hR hl h1 h2 h3
  exact lv_icmp_eq hC.x hC.b hd ht (fun q => kt q p l e R s m args below meth c H locs cells slots ls hC hR hl h1 h2 h3) (fun q => kf q p l e R s m args below meth c H locs cells slots ls hC hR hl h1 h2 h3)
theorem fx_icmp_ne {x y : Int32} {off : Int} (tgt : Nat) (hd : decode M.2.1 pc = .ok (.if_icmp .ne off, 3)) (ht : (pc : Int) + off = (tgt : Int)) (kt : ¬ x = y → fx_Y g M d lo K KX tgt lv st h cu su) (kf : x = y → fx_Y g M d lo K KX (pc + 3) lv st h cu su) : fx_Y g M d lo K KX pc lv (.int y :: .int x :: st) h cu su := by
  intro p l e R s m args below meth c H locs cells slots ls hC hR hl h1 h2 h3
  exact lv_icmp_ne hC.x hC.b hd ht (fun q => kt q p l e R s m args below meth c H locs cells slots ls hC hR hl h1 h2 h3) (fun q => kf q p l e R s m args below meth c H locs cells slots ls hC hR hl h1 h2 h3)
theorem fx_icmp_lt {x y : Int32} {off : Int} (tgt : Nat) (hd : decode M.2.1 pc = .ok (.if_icmp .lt off, 3)) (ht : (pc : Int) + off = (tgt : Int)) (kt : x < y → fx_Y g M d lo K KX tgt lv st h cu su) (kf : ¬ x < y → fx_Y g M d lo K KX (pc + 3) lv st h cu su) : fx_Y g M d lo K KX pc lv (.int y :: .int x :: st) h cu su := by
  intro p l e R s m args below meth c H locs cells slots ls hC hR hl h1 h2 h3
  exact lv_icmp_lt hC.x hC.b hd ht (fun q => kt q p l e R s m args below meth c H locs cells slots ls hC hR hl h1 h2 h3) (fun q => kf q p l e R s m args below meth c H locs cells slots ls hC hR hl h1 h2 h3)
theorem fx_icmp_ge {x y : Int32} {off : Int} (tgt : Nat) (hd : decode M.2.1 pc = .ok (.if_icmp .ge off, 3)) (ht : (pc : Int) + off = (tgt : Int)) (kt : y ≤ x → fx_Y g M d lo K KX tgt lv st h cu su) (kf : ¬ y ≤ x → fx_Y g M d lo K KX (pc + 3) lv st h cu su) : fx_Y g M d lo K KX pc lv (.int y :: .int x :: st) h cu su := by
  intro p l e R s m args below meth c H locs cells slots ls hC hR hl h1 h2 h3
  exact lv_icmp_ge hC.x hC.b hd ht (fun q => kt q p l e R s m args below meth c H locs cells slots ls hC hR hl h1 h2 h3) (fun q => kf q p l e R s m args below meth c H locs cells slots ls hC hR hl h1 h2 h3)
theorem fx_icmp_gt {x y : Int32} {off : Int} (tgt : Nat) (hd : decode M.2.1 pc = .ok (.if_icmp .gt off, 3)) (ht : (pc : Int) + off = (tgt : Int)) (kt : y < x → fx_Y g M d lo K KX tgt lv st h cu su) (kf : ¬ y < x → fx_Y g M d lo K KX (pc + 3) lv st h cu su) : fx_Y g M d lo K KX pc lv (.int y :: .int x :: st) h cu su := by
  intro p l e R s m args below meth c H locs cells slots ls hC hR hl h1 h2 h3
  exact lv_icmp_gt hC.x hC.b hd ht (fun q => kt q p l e R s m args below meth c H locs cells slots ls hC hR hl h1 h2 h3) (fun q => kf q p l e R s m args below meth c H locs cells slots ls hC hR hl h1 h2 h3)
theorem fx_icmp_le {x y : Int32} {off : Int} (tgt : Nat) (hd : decode M.2.1 pc = .ok (.if_icmp .le off, 3)) (ht : (pc : Int) + off = (tgt : Int)) (kt : x ≤ y → fx_Y g M d lo K KX tgt lv st h cu su) (kf : ¬ x ≤ y → fx_Y g M d lo K KX (pc + 3) lv st h cu su) : fx_Y g M d lo K KX pc lv (.int y :: .int x :: st) h cu su := by
  intro p l e R s m args below meth c H locs cells slots ls hC hR hl h1 h2 h3
  exact lv_icmp_le hC.x hC.b hd ht (fun q => kt q p l e R s m args below meth c H locs cells slots ls hC hR hl h1 h2 h3) (fun q => kf q p l e R s m args below meth c H locs cells slots ls hC hR hl h1 h2 h3)
theorem fx_if_eq {x : Int32} {off : Int} (tgt : Nat) (hd : decode M.2.1 pc = .ok (.ifCond .eq off, 3)) (ht : (pc : Int) + off = (tgt : Int)) (kt : x = 0 → fx_Y g M d lo K KX tgt lv st h cu su) (kf : ¬ x = 0 → fx_Y g M d lo K KX (pc + 3) lv st h cu su) : fx_Y g M d lo K KX pc lv (.int x :: st) h cu su := by
  intro p l e R s m args below meth c H locs cells slots ls hC hR hl h1 h2 h3
  exact lv_if_eq hC.x hC.b hd ht (fun q => kt q p l e R s m args below meth c H locs cells slots ls hC hR hl h1 h2 h3) (fun q => kf q p l e R s m args below meth c H locs cells slots ls hC hR hl h1 h2 h3)
theorem fx_if_ne {x : Int32} {off : Int} (tgt : Nat) (hd : decode M.2.1 pc = .ok (.ifCond .ne off, 3)) (ht : (pc : Int) + off = (tgt : Int)) (kt : ¬ x = 0 → fx_Y g M d lo K KX tgt lv st h cu su) (kf : x = 0 → fx_Y g M d lo K KX (pc + 3) lv st h cu su) : fx_Y g M d lo K KX pc lv (.int x :: st) h cu su := by
  intro p l e R s m args below meth c H locs cells slots ls hC hR hl h1 h2 h3
  exact lv_if_ne hC.x hC.b hd ht (fun q => kt q p l e R s m args below meth c H locs cells slots ls hC hR hl h1 h2 h3) (fun q => kf q p l e R s m args below meth c H locs cells slots ls hC hR hl h1 h2 h3)
theorem fx_if_lt {x : Int32} {off : Int} (tgt : Nat) (hd : decode M.2.1 pc = .ok (.ifCond .lt off, 3)) (ht : (pc : Int) + off = (tgt : Int)) (kt : x < 0 → fx_Y g M d lo K KX tgt lv st h cu su) (kf : ¬ x < 0 → fx_Y g M d lo K KX (pc + 3) lv st h cu su) : fx_Y g M d lo K KX pc lv (.int x :: st) h cu su := by
  intro p l e R s m args below meth c H locs cells slots ls hC hR hl h1 h2 h3
  exact lv_if_lt hC.x hC.b hd ht (fun q => kt q p l e R s m args below meth c H locs cells slots ls hC hR hl h1 h2 h3) (fun q => kf q p l e R s m args below meth c H locs cells slots ls hC hR hl h1 h2 h3)
theorem fx_if_ge {x : Int32} {off : Int} (tgt : Nat) (hd : decode M.2.1 pc = .ok (.ifCond .ge off, 3)) (ht : (pc : Int) + off = (tgt : Int)) (kt : 0 ≤ x → fx_Y g M d lo K KX tgt lv st h cu su) (kf : ¬ 0 ≤ x → fx_Y g M d lo K KX (pc + 3) lv st h cu su) : fx_Y g M d lo K KX pc lv (.int x :: st) h cu su := by
  intro p l e R s m args below meth c H locs cells slots ls hC hR hl h1 h2 h3
  exact lv_if_ge hC.x hC.b hd ht (fun q => kt q p l e R s m args below meth c H locs cells slots ls hC hR hl h1 h2 h3) (fun q => kf q p l e R s m args below meth c H locs cells slots ls hC hR hl h1 h2 h3)
theorem fx_if_gt {x : Int32} {off : Int} (tgt : Nat) (hd : decode M.2.1 pc = .ok (.ifCond .gt off, 3)) (ht : (pc : Int) + off = (tgt : Int)) (kt : 0 < x → fx_Y g M d lo K KX tgt lv st h cu su) (kf : ¬ 0 < x → fx_Y g M d lo K KX (pc + 3) lv st h cu su) : fx_Y g M d lo K KX pc lv (.int x :: st) h cu su := by
  intro p l e R s m args below meth c H locs cells slots ls hC hR hl h1 h2 h3
  exact lv_if_gt hC.x hC.b hd ht (fun q => kt q p l e R s m args below meth c H locs cells slots ls hC hR hl h1 h2 h3) (fun q => kf q p l e R s m args below meth c H locs cells slots ls hC hR hl h1 h2 h3)
theorem fx_if_le {x : Int32} {off : Int} (tgt : Nat) (hd : decode M.2.1 pc = .ok (.ifCond .le off, 3)) (ht : (pc : Int) + off = (tgt : Int)) (kt : x ≤ 0 → fx_Y g M d lo K KX tgt lv st h cu su) (kf : ¬ x ≤ 0 → fx_Y g M d lo K KX (pc + 3) lv st h cu su) : fx_Y g M d lo K KX pc lv (.int x :: st) h cu su := by
  intro p l e R s m args below meth c H locs cells slots ls hC hR hl h1 h2 h3
  exact lv_if_le hC.x hC.b hd ht (fun q => kt q p l e R s m args below meth c H locs cells slots ls hC hR hl h1 h2 h3) (fun q => kf q p l e R s m args below meth c H locs cells slots ls hC hR hl h1 h2 h3)
theorem fx_lcmp {x y : Int64} (hd : decode M.2.1 pc = .ok (.lcmp, 1)) (k : fx_Y g M d lo K KX (pc + 1) lv (.int (lg_cmp x y) :: st) h cu su) : fx_Y g M d lo K KX pc lv (.long y :: .long x :: st) h cu su := by
  intro p l e R s m args below meth c H locs cells slots ls hC hR hl h1 h2 h3
  exact W.lcmp hC.x hC.b hd (k p l e R s m args below meth c H locs cells slots ls hC hR hl h1 h2 h3)
theorem fx_ifnullR {x : Nat} {off : Int} (hd : decode M.2.1 pc = .ok (.ifnull off, 3)) (k : fx_Y g M d lo K KX (pc + 3) lv st h cu su) : fx_Y g M d lo K KX pc lv (.ref x :: st) h cu su := by
  intro p l e R s m args below meth c H locs cells slots ls hC hR hl h1 h2 h3
  exact lv_ifnull hC.x hC.b hd (k p l e R s m args below meth c H locs cells slots ls hC hR hl h1 h2 h3)
theorem fx_ifnullN {off : Int} (tgt : Nat) (hd : decode M.2.1 pc = .ok (.ifnull off, 3)) (ht : (pc : Int) + off = (tgt : Int)) (k : fx_Y g M d lo K KX tgt lv st h cu su) : fx_Y g M d lo K KX pc lv (.null :: st) h cu su := by
  intro p l e R s m args below meth c H locs cells slots ls hC hR hl h1 h2 h3
  exact lv_ifnullN hC.x hC.b hd ht (k p l e R s m args below meth c H locs cells slots ls hC hR hl h1 h2 h3)
theorem fx_ifnonnullR {x : Nat} {off : Int} (tgt : Nat) (hd : decode M.2.1 pc = .ok (.ifnonnull off, 3)) (ht : (pc : Int) + off = (tgt : Int)) (k : fx_Y g M d lo K KX tgt lv st h cu su) : fx_Y g M d lo K KX pc lv (.ref x :: st) h cu su := by
  intro p l e R s m args below meth c H locs cells slots ls hC hR hl h1 h2 h3
  exact lv_ifnonnull hC.x hC.b hd ht (k p l e R s m args below meth c H locs cells slots ls hC hR hl h1 h2 h3)
theorem fx_ifnonnullN {off : Int} (hd : decode M.2.1 pc = .ok (.ifnonnull off, 3)) (k : fx_Y g M d lo K KX (pc + 3) lv st h cu su) : fx_Y g M d lo K KX pc lv (.null :: st) h cu su := by
  intro p l e R s m args below meth c H locs cells slots ls hC hR hl h1 h2 h3
  exact lv_ifnonnullN hC.x hC.b hd (k p l e R s m args below meth c H locs cells slots ls hC hR hl h1 h2 h3)
theorem fx_aloadnN {i : Fin 4} (hd : decode M.2.1 pc = .ok (.aload_n i, 1)) (hv : lv.lookup (i : Nat) = some .null) (k : fx_Y g M d lo K KX (pc + 1) lv (.null :: st) h cu su) : fx_Y g M d lo K KX pc lv st h cu su := by
  intro p l e R s m args below meth c H locs cells slots ls hC hR hl h1 h2 h3
  exact lv_aload_nN hC.x hC.b hd rfl (fx_lv hl hv) (k p l e R s m args below meth c H locs cells slots ls hC hR hl h1 h2 h3)
theorem fx_aloadN {i : Nat} (hd : decode M.2.1 pc = .ok (.aload i, 2)) (hv : lv.lookup i = some .null) (k : fx_Y g M d lo K KX (pc + 2) lv (.null :: st) h cu su) : fx_Y g M d lo K KX pc lv st h cu su := by
  intro p l e R s m args below meth c H locs cells slots ls hC hR hl h1 h2 h3
  exact lv_aloadN hC.x hC.b hd (fx_lv hl hv) (k p l e R s m args below meth c H locs cells slots ls hC hR hl h1 h2 h3)
theorem fx_astorenN {i : Fin 4} (hd : decode M.2.1 pc = .ok (.astore_n i, 1)) (hi : (i : Nat) < M.2.2.1) (k : fx_Y g M d lo K KX (pc + 1) (fx_s1 lv (i : Nat) .null) st h cu su) : fx_Y g M d lo K KX pc lv (.null :: st) h cu su := by
  intro p l e R s m args below meth c H locs cells slots ls hC hR hl h1 h2 h3
  exact lv_astore_nN hC.x hC.b hd rfl hl hi rfl (fun ls' hl' => k p l e R s m args below meth c H locs cells slots ls' hC hR hl' h1 h2 h3)
theorem fx_tswIn {dflt lo9 hi9 : Int} {offs : Array Int} {len : Nat} {x : Int32} (off : Int) (tgt : Nat) (hd : decode M.2.1 pc = .ok (.tableswitch dflt lo9 hi9 offs, len)) (q1 : ¬ x.toInt < lo9) (q2 : ¬ hi9 < x.toInt) (ho : offs[(x.toInt - lo9).toNat]? = some off) (ht : (pc : Int) + off = (tgt : Int)) (k : fx_Y g M d lo K KX tgt lv st h cu su) : fx_Y g M d lo K KX pc lv (.int x :: st) h cu su := by
  intro p l e R s m args below meth c H locs cells slots ls hC hR hl h1 h2 h3
  exact lv_tableIn hC.x hC.b hd q1 q2 ho ht (k p l e R s m args below meth c H locs cells slots ls hC hR hl h1 h2 h3)
theorem fx_tswOut {dflt lo9 hi9 : Int} {offs : Array Int} {len : Nat} {x : Int32} (tgt : Nat) (hd : decode M.2.1 pc = .ok (.tableswitch dflt lo9 hi9 offs, len)) (q : x.toInt < lo9 ∨ hi9 < x.toInt) (ht : (pc : Int) + dflt = (tgt : Int)) (k : fx_Y g M d lo K KX tgt lv st h cu su) : fx_Y g M d lo K KX pc lv (.int x :: st) h cu su := by
  intro p l e R s m args below meth c H locs cells slots ls hC hR hl h1 h2 h3
  exact lv_tableOut hC.x hC.b hd q ht (k p l e R s m args below meth c H locs cells slots ls hC hR hl h1 h2 h3)
theorem fx_iret {v : Int32} (hd : decode M.2.1 pc = .ok (.ireturn, 1)) (hr : M.2.2.2 = some .int) (k : K (some (.int v)) h) : fx_Y g M d lo K KX pc lv [.int v] h cu su := by
  intro p l e R s m args below meth c H locs cells slots ls hC hR hl h1 h2 h3
  refine W.widen (k := R.cells) (n := R.slots) (by omega) (by omega) (vx_ret ?_)
  exact W.iret hC.x hC.b (hC.r.trans hr) (fun t ht _ => ⟨_, h, rfl, k, by rw [ht]; exact hR⟩) h3 hd hC.lk
theorem fx_zret {v : Int32} (hd : decode M.2.1 pc = .ok (.ireturn, 1)) (hr : M.2.2.2 = some .boolean) (hn : narrow .boolean (.int v) = .int v) (k : K (some (.int v)) h) : fx_Y g M d lo K KX pc lv [.int v] h cu su := by
  intro p l e R s m args below meth c H locs cells slots ls hC hR hl h1 h2 h3
  refine W.widen (k := R.cells) (n := R.slots) (by omega) (by omega) (vx_ret ?_)
  exact W.zret hC.x hC.b (hC.r.trans hr) hn (fun t ht _ => ⟨_, h, rfl, k, by rw [ht]; exact hR⟩) h3 hd hC.lk
theorem fx_lret {v : Int64} (hd : decode M.2.1 pc = .ok (.lreturn, 1)) (hr : M.2.2.2 = some .long) (k : K (some (.long v)) h) : fx_Y g M d lo K KX pc lv [.long v] h cu su := by
  intro p l e R s m args below meth c H locs cells slots ls hC hR hl h1 h2 h3
  refine W.widen (k := R.cells) (n := R.slots) (by omega) (by omega) (vx_ret ?_)
  exact W.lret hC.x hC.b (hC.r.trans hr) (fun t ht _ => ⟨_, h, rfl, k, by rw [ht]; exact hR⟩) h3 hd hC.lk
theorem fx_vret  (hd : decode M.2.1 pc = .ok (.return_, 1)) (hr : M.2.2.2 = none) (k : K none h) : fx_Y g M d lo K KX pc lv [] h cu su := by
  intro p l e R s m args below meth c H locs cells slots ls hC hR hl h1 h2 h3
  refine W.widen (k := R.cells) (n := R.slots) (by omega) (by omega) (vx_ret ?_)
  exact W.vret hC.x hC.b (hC.r.trans hr) (fun t ht _ => ⟨_, h, rfl, k, by rw [ht]; exact hR⟩) h3 hd hC.lk
theorem fx_aret {rt : FieldType} {v : Value} (hd : decode M.2.1 pc = .ok (.areturn, 1)) (hr : M.2.2.2 = some rt) (hrt : (∃ n, rt = .object n) ∨ ∃ t, rt = .array t) (hv : v = .null ∨ ∃ a, v = .ref a) (k : K (some v) h) : fx_Y g M d lo K KX pc lv [v] h cu su := by
  intro p l e R s m args below meth c H locs cells slots ls hC hR hl h1 h2 h3
  refine W.widen (k := R.cells) (n := R.slots) (by omega) (by omega) (vx_ret ?_)
  exact W.aret hC.x hC.b (hC.r.trans hr) hrt hv (fun t ht _ => ⟨_, h, rfl, k, by rw [ht]; exact hR⟩) h3 hd hC.lk
/-- the field that entry idx of class own's pool names: number k of kind ci -/
def fx_F (own : String) (idx ci k : Nat) (fin : Bool) (ty : FieldType) : Prop := ∃ (C : String) (T : u_T) (N : Nat) (ty0 : Nat → FieldType), vwCl[ci]? = some (C, T, N) ∧ k < N ∧ (∀ w ∈ u_ws C T N, w ∈ fx_ws) ∧ Cond.fieldLink own idx (T k).1 (T k).2.1 (T k).2.2.1 ∈ fx_ws ∧ (∀ k, k < N → parseFieldDescriptor (T k).2.2.1 = some (ty0 k)) ∧ (∀ a, a < N → ∀ b, b < N → a ≠ b → (T a).2.1 ≠ (T b).2.1) ∧ (T k).2.2.2 = fin ∧ parseFieldDescriptor (T k).2.2.1 = some ty ∧ (T k).1 = C
theorem fx_get {idx ci k9 : Nat} {fin : Bool} {ty : FieldType} {a : Nat} {fs : List Value} {v : Value} (hd : decode M.2.1 pc = .ok (.getfield idx, 3)) (F : fx_F M.1.cls idx ci k9 fin ty) (hh : h a = some (.inr (ci, fs))) (hv : fs[k9]? = some v) (k : fx_Y g M d lo K KX (pc + 3) lv (v :: st) h cu su) : fx_Y g M d lo K KX pc lv (.ref a :: st) h cu su := by
  intro p l e R s m args below meth c H locs cells slots ls hC hR hl h1 h2 h3
  obtain ⟨C, T, N, ty0, hc, hk, hin, hlink, -⟩ := F
  obtain ⟨r, e1, cell, q1, q2, q3, q4⟩ := (hR.1 a _ hh).2
  have hr : r = (C, T, N) := Option.some.inj (e1.symm.trans hc)
  subst hr
  obtain ⟨hS, hfc, kC, hkC, hkind⟩ := hC.k.1 ci _ hc
  obtain ⟨cf, kf, fi, f, hi, hsl⟩ := hS k9 hk
  refine W.getf hC.x hC.b hC.own (hC.ts _ hlink) hi (u_facts hfc hkC (u_lays hC.ts hin hk) hi).1 q1 (by rw [q3]; exact fun h => by cases h) (v := v) ?_ rfl rfl hd (k p l e R s m args below meth c H locs cells slots ls hC hR hl h1 h2 h3)
  rw [hsl, q4 k9 hk]
  simp [vp_V, hv]
theorem fx_put {idx ci k9 : Nat} {ty : FieldType} {a : Nat} {fs : List Value} {v : Value} (hd : decode M.2.1 pc = .ok (.putfield idx, 3)) (F : fx_F M.1.cls idx ci k9 false ty) (hh : h a = some (.inr (ci, fs))) (hn : narrow ty v = v) (hf : fits ty v = true) (hln : k9 < fs.length) (k : fx_Y g M d lo K KX (pc + 3) lv st (va_up h a (some (.inr (ci, fs.set k9 v)))) cu su) : fx_Y g M d lo K KX pc lv (v :: .ref a :: st) h cu su := by
  intro p l e R s m args below meth c H locs cells slots ls hC hR hl h1 h2 h3
  obtain ⟨C, T, N, ty0, hc, hk, hin, hlink, hty, hnm, hfin, hdd, hdecl⟩ := F
  have hap := va_apart (own := M.1.cls) (D := g.1) (cl := vwCl) (tys := []) hC.ts hin ty0 hty hnm ⟨hC.k.1, fun k q h => by simp at h⟩ hc
  obtain ⟨r, e1, cell, q1, q2, q3, q4⟩ := (hR.1 a _ hh).2
  have hr : r = (C, T, N) := Option.some.inj (e1.symm.trans hc)
  subst hr
  obtain ⟨hS, hfc, kC, hkC, hkind⟩ := hC.k.1 ci _ hc
  obtain ⟨cf, kf, fi, f, hi, hsl⟩ := hS k9 hk
  have hlay := hC.ts _ (hin _ (u_in_lay hk))
  unfold u_lay at hlay
  rw [if_neg (by rw [hfin]; decide)] at hlay
  have hst := (u_facts hfc hkC (u_lays hC.ts hin hk) hi).1
  have h6 := u_store hfc hkC hkind hlay hi hdd hn hf
  refine W.putK hC.x hC.b (f := f) ⟨hC.own, hC.ts _ hlink, ⟨_, _, _, hi⟩, hst⟩ (by rw [q2]; exact h6) q1 q3 (by rw [hsl]; exact k2_hasslot (q4 k9 hk)) rfl rfl hd fun H' e1 e2 e3 => ?_
  rw [hsl] at e1 ⊢
  refine k p l e R s m args below meth c H' _ cells slots ls hC (hR.set (hR.1 a _ hh).1 ⟨_, hc, t_OB.to (V := updV (vp_V fs) k9 v) ⟨_, e1, q2, q3, t_set q4 hap hk v⟩ (fun j _ => vp_updV_set hln v j)⟩ (Nat.le_of_eq e2.symm) (fun q hq _ => e3 q hq)) hl h1 h2 (fun q hq => ?_)
  rcases List.mem_append.mp hq with hq | hq
  · exact h3 q hq
  · rw [List.mem_singleton.mp hq]
    exact (hR.1 a _ hh).1
theorem fx_putF {idx ci k9 : Nat} {ty : FieldType} {a : Nat} {fs : List Value} {v : Value} (hd : decode M.2.1 pc = .ok (.putfield idx, 3)) (F : fx_F M.1.cls idx ci k9 true ty) (hinit : M.1.name = "<init>") (hown9 : (vwCl[ci]?.map (·.1)) = some M.1.cls) (hh : h a = some (.inr (ci, fs))) (hn : narrow ty v = v) (hf : fits ty v = true) (hln : k9 < fs.length) (k : fx_Y g M d lo K KX (pc + 3) lv st (va_up h a (some (.inr (ci, fs.set k9 v)))) cu su) : fx_Y g M d lo K KX pc lv (v :: .ref a :: st) h cu su := by
  intro p l e R s m args below meth c H locs cells slots ls hC hR hl h1 h2 h3
  obtain ⟨C, T, N, ty0, hc, hk, hin, hlink, hty, hnm, hfin, hdd, hdecl⟩ := F
  have hap := va_apart (own := M.1.cls) (D := g.1) (cl := vwCl) (tys := []) hC.ts hin ty0 hty hnm ⟨hC.k.1, fun k q h => by simp at h⟩ hc
  obtain ⟨r, e1, cell, q1, q2, q3, q4⟩ := (hR.1 a _ hh).2
  have hr : r = (C, T, N) := Option.some.inj (e1.symm.trans hc)
  subst hr
  obtain ⟨hS, hfc, kC, hkC, hkind⟩ := hC.k.1 ci _ hc
  obtain ⟨cf, kf, fi, f, hi, hsl⟩ := hS k9 hk
  have hlay := hC.ts _ (hin _ (u_in_lay hk))
  unfold u_lay at hlay
  rw [if_pos hfin] at hlay
  have hst := (u_facts hfc hkC (u_lays hC.ts hin hk) hi).1
  have hcls : C = M.1.cls := by
    rw [hc] at hown9
    exact Option.some.inj hown9
  have hcf : m.cls = cf := by
    obtain ⟨_, _, c', _, _, _, -, -, hf', -, -, -, hown2, -⟩ := Cond.laysFinal_spec hlay
    have e1 : c' = cf := by have := hi.symm.trans hf'; simp at this; exact this.1.symm
    rw [hdecl, hcls] at hown2
    rw [← e1]; exact Option.some.inj (hC.own.symm.trans hown2)
  have h6 := u_fits hfc hkC hkind (Or.inr hlay) hi hdd hn hf
  refine W.putFinK hC.x hC.b hC.own (hC.ts _ hlink) hi hst hcf (hC.nm.trans hinit) (by rw [q2]; exact h6) q1 q3 (by rw [hsl]; exact k2_hasslot (q4 k9 hk)) rfl rfl hd fun H' e1 e2 e3 => ?_
  rw [hsl] at e1 ⊢
  refine k p l e R s m args below meth c H' _ cells slots ls hC (hR.set (hR.1 a _ hh).1 ⟨_, hc, t_OB.to (V := updV (vp_V fs) k9 v) ⟨_, e1, q2, q3, t_set q4 hap hk v⟩ (fun j _ => vp_updV_set hln v j)⟩ (Nat.le_of_eq e2.symm) (fun q hq _ => e3 q hq)) hl h1 h2 (fun q hq => ?_)
  rcases List.mem_append.mp hq with hq | hq
  · exact h3 q hq
  · rw [List.mem_singleton.mp hq]
    exact (hR.1 a _ hh).1
theorem fx_iald {a n : Nat} {i : Int32} {f : Nat → Int32} (hd : decode M.2.1 pc = .ok (.iaload, 1)) (hh : h a = some (.inl (0, n, .inl f))) (hi : vp_in i n) (k : fx_Y g M d lo K KX (pc + 1) lv (.int (f i.toNatClampNeg) :: st) h cu su) : fx_Y g M d lo K KX pc lv (.int i :: .ref a :: st) h cu su := by
  intro p l e R s m args below meth c H locs cells slots ls hC hR hl h1 h2 h3
  have hlt : i.toNatClampNeg < n := Nat.not_le.mp fun q => hi (Or.inr q)
  exact W.iald (v := .int (f i.toNatClampNeg)) hC.x hC.b (hR.1 a _ hh).2 ((hC.k.2.1 0 (by decide)).1 n (fun j => .int (f j))) (fun q => by cases q) (by show ¬ (i < 0 ∨ (arrV _ _ _).slots.size ≤ _); rw [arrV_size]; exact hi) (by show (arrV _ _ _).slots[_]? = _; rw [arrV_read _ _ hlt]) rfl rfl hd (k p l e R s m args below meth c H locs cells slots ls hC hR hl h1 h2 h3)
theorem fx_bald {a n : Nat} {i : Int32} {f : Nat → Int32} (hd : decode M.2.1 pc = .ok (.baload, 1)) (hh : h a = some (.inl (1, n, .inl f))) (hi : vp_in i n) (k : fx_Y g M d lo K KX (pc + 1) lv (.int (f i.toNatClampNeg) :: st) h cu su) : fx_Y g M d lo K KX pc lv (.int i :: .ref a :: st) h cu su := by
  intro p l e R s m args below meth c H locs cells slots ls hC hR hl h1 h2 h3
  have hlt : i.toNatClampNeg < n := Nat.not_le.mp fun q => hi (Or.inr q)
  exact W.bald (v := .int (f i.toNatClampNeg)) hC.x hC.b (hR.1 a _ hh).2 ((hC.k.2.1 1 (by decide)).1 n (fun j => .int (f j))) (fun q => by cases q) (by show ¬ (i < 0 ∨ (arrV _ _ _).slots.size ≤ _); rw [arrV_size]; exact hi) (by show (arrV _ _ _).slots[_]? = _; rw [arrV_read _ _ hlt]) rfl rfl hd (k p l e R s m args below meth c H locs cells slots ls hC hR hl h1 h2 h3)
theorem fx_zald {a n : Nat} {i : Int32} {f : Nat → Int32} (hd : decode M.2.1 pc = .ok (.baload, 1)) (hh : h a = some (.inl (2, n, .inl f))) (hi : vp_in i n) (k : fx_Y g M d lo K KX (pc + 1) lv (.int (f i.toNatClampNeg) :: st) h cu su) : fx_Y g M d lo K KX pc lv (.int i :: .ref a :: st) h cu su := by
  intro p l e R s m args below meth c H locs cells slots ls hC hR hl h1 h2 h3
  have hlt : i.toNatClampNeg < n := Nat.not_le.mp fun q => hi (Or.inr q)
  exact W.zald (v := .int (f i.toNatClampNeg)) hC.x hC.b (hR.1 a _ hh).2 ((hC.k.2.1 2 (by decide)).1 n (fun j => .int (f j))) (fun q => by cases q) (by show ¬ (i < 0 ∨ (arrV _ _ _).slots.size ≤ _); rw [arrV_size]; exact hi) (by show (arrV _ _ _).slots[_]? = _; rw [arrV_read _ _ hlt]) rfl rfl hd (k p l e R s m args below meth c H locs cells slots ls hC hR hl h1 h2 h3)
theorem fx_lald {a n : Nat} {i : Int32} {f : Nat → Int64} (hd : decode M.2.1 pc = .ok (.laload, 1)) (hh : h a = some (.inl (3, n, .inr (.inl f)))) (hi : vp_in i n) (k : fx_Y g M d lo K KX (pc + 1) lv (.long (f i.toNatClampNeg) :: st) h cu su) : fx_Y g M d lo K KX pc lv (.int i :: .ref a :: st) h cu su := by
  intro p l e R s m args below meth c H locs cells slots ls hC hR hl h1 h2 h3
  have hlt : i.toNatClampNeg < n := Nat.not_le.mp fun q => hi (Or.inr q)
  exact W.lald (v := .long (f i.toNatClampNeg)) hC.x hC.b (hR.1 a _ hh).2 ((hC.k.2.1 3 (by decide)).1 n (fun j => .long (f j))) (fun q => by cases q) (by show ¬ (i < 0 ∨ (arrV _ _ _).slots.size ≤ _); rw [arrV_size]; exact hi) (by show (arrV _ _ _).slots[_]? = _; rw [arrV_read _ _ hlt]) rfl rfl hd (k p l e R s m args below meth c H locs cells slots ls hC hR hl h1 h2 h3)
theorem fx_iast {a n : Nat} {i : Int32} {x : Int32} {f : Nat → Int32} (hd : decode M.2.1 pc = .ok (.iastore, 1)) (hh : h a = some (.inl (0, n, .inl f))) (hi : vp_in i n) (k : fx_Y g M d lo K KX (pc + 1) lv st (va_up h a (some (.inl (0, n, .inl (upd f i.toNatClampNeg x))))) cu su) : fx_Y g M d lo K KX pc lv (.int x :: .int i :: .ref a :: st) h cu su := by
  intro p l e R s m args below meth c H locs cells slots ls hC hR hl h1 h2 h3
  refine W.iast hC.x hC.b (hR.1 a _ hh).2 ((hC.k.2.1 0 (by decide)).1 n (fun j => .int (f j))) (fun q => by cases q) (by show ¬ (i < 0 ∨ (arrV _ _ _).slots.size ≤ _); rw [arrV_size]; exact hi) rfl rfl hd fun H1 e9 z oq => ?_
  refine k p l e R s m args below meth c H1 _ cells slots ls hC (hR.set (hR.1 a _ hh).1 ?_ (Nat.le_of_eq z.symm) (fun q hq _ => oq q hq)) hl h1 h2 (fun q hq => ?_)
  · show H1[a]? = some (vp_cell _ _)
    rw [e9]
    rw [vp_cell_i, vp_cell_i, arrV_store]
    congr 2
    funext q
    by_cases hq : q = i.toNatClampNeg
    · subst hq
      simp [updV, upd]
      try rfl
    · simp [updV, upd, hq]
  · rcases List.mem_append.mp hq with hq | hq
    · exact h3 q hq
    · rw [List.mem_singleton.mp hq]
      exact (hR.1 a _ hh).1
theorem fx_bast {a n : Nat} {i : Int32} {x : Int32} {f : Nat → Int32} (hd : decode M.2.1 pc = .ok (.bastore, 1)) (hh : h a = some (.inl (1, n, .inl f))) (hi : vp_in i n) (k : fx_Y g M d lo K KX (pc + 1) lv st (va_up h a (some (.inl (1, n, .inl (upd f i.toNatClampNeg (vp_nar .byte x)))))) cu su) : fx_Y g M d lo K KX pc lv (.int x :: .int i :: .ref a :: st) h cu su := by
  intro p l e R s m args below meth c H locs cells slots ls hC hR hl h1 h2 h3
  refine W.bast hC.x hC.b (hR.1 a _ hh).2 ((hC.k.2.1 1 (by decide)).1 n (fun j => .int (f j))) (fun q => by cases q) (by show ¬ (i < 0 ∨ (arrV _ _ _).slots.size ≤ _); rw [arrV_size]; exact hi) rfl rfl hd fun H1 e9 z oq => ?_
  refine k p l e R s m args below meth c H1 _ cells slots ls hC (hR.set (hR.1 a _ hh).1 ?_ (Nat.le_of_eq z.symm) (fun q hq _ => oq q hq)) hl h1 h2 (fun q hq => ?_)
  · show H1[a]? = some (vp_cell _ _)
    rw [e9]
    rw [vp_cell_i, vp_cell_i, arrV_store]
    congr 2
    funext q
    by_cases hq : q = i.toNatClampNeg
    · subst hq
      simp [updV, upd, vp_nar]
      try rfl
    · simp [updV, upd, vp_nar, hq]
  · rcases List.mem_append.mp hq with hq | hq
    · exact h3 q hq
    · rw [List.mem_singleton.mp hq]
      exact (hR.1 a _ hh).1
theorem fx_zast {a n : Nat} {i : Int32} {x : Int32} {f : Nat → Int32} (hd : decode M.2.1 pc = .ok (.bastore, 1)) (hh : h a = some (.inl (2, n, .inl f))) (hi : vp_in i n) (k : fx_Y g M d lo K KX (pc + 1) lv st (va_up h a (some (.inl (2, n, .inl (upd f i.toNatClampNeg (vp_nar .boolean x)))))) cu su) : fx_Y g M d lo K KX pc lv (.int x :: .int i :: .ref a :: st) h cu su := by
  intro p l e R s m args below meth c H locs cells slots ls hC hR hl h1 h2 h3
  refine W.zast hC.x hC.b (hR.1 a _ hh).2 ((hC.k.2.1 2 (by decide)).1 n (fun j => .int (f j))) (fun q => by cases q) (by show ¬ (i < 0 ∨ (arrV _ _ _).slots.size ≤ _); rw [arrV_size]; exact hi) rfl rfl hd fun H1 e9 z oq => ?_
  refine k p l e R s m args below meth c H1 _ cells slots ls hC (hR.set (hR.1 a _ hh).1 ?_ (Nat.le_of_eq z.symm) (fun q hq _ => oq q hq)) hl h1 h2 (fun q hq => ?_)
  · show H1[a]? = some (vp_cell _ _)
    rw [e9]
    rw [vp_cell_i, vp_cell_i, arrV_store]
    congr 2
    funext q
    by_cases hq : q = i.toNatClampNeg
    · subst hq
      simp [updV, upd, vp_nar]
      try rfl
    · simp [updV, upd, vp_nar, hq]
  · rcases List.mem_append.mp hq with hq | hq
    · exact h3 q hq
    · rw [List.mem_singleton.mp hq]
      exact (hR.1 a _ hh).1
theorem fx_last {a n : Nat} {i : Int32} {x : Int64} {f : Nat → Int64} (hd : decode M.2.1 pc = .ok (.lastore, 1)) (hh : h a = some (.inl (3, n, .inr (.inl f)))) (hi : vp_in i n) (k : fx_Y g M d lo K KX (pc + 1) lv st (va_up h a (some (.inl (3, n, .inr (.inl (vp_updL f i.toNatClampNeg x)))))) cu su) : fx_Y g M d lo K KX pc lv (.long x :: .int i :: .ref a :: st) h cu su := by
  intro p l e R s m args below meth c H locs cells slots ls hC hR hl h1 h2 h3
  refine W.last hC.x hC.b (hR.1 a _ hh).2 ((hC.k.2.1 3 (by decide)).1 n (fun j => .long (f j))) (fun q => by cases q) (by show ¬ (i < 0 ∨ (arrV _ _ _).slots.size ≤ _); rw [arrV_size]; exact hi) rfl rfl hd fun H1 e9 z oq => ?_
  refine k p l e R s m args below meth c H1 _ cells slots ls hC (hR.set (hR.1 a _ hh).1 ?_ (Nat.le_of_eq z.symm) (fun q hq _ => oq q hq)) hl h1 h2 (fun q hq => ?_)
  · show H1[a]? = some (vp_cell _ _)
    rw [e9]
    rw [vp_cell_l, vp_cell_l, arrV_store]
    congr 2
    funext q
    by_cases hq : q = i.toNatClampNeg
    · subst hq
      simp [updV, vp_updL]
      try rfl
    · simp [updV, vp_updL, hq]
  · rcases List.mem_append.mp hq with hq | hq
    · exact h3 q hq
    · rw [List.mem_singleton.mp hq]
      exact (hR.1 a _ hh).1
theorem fx_alenI {a t n : Nat} {f : Nat → Int32} (hd : decode M.2.1 pc = .ok (.arraylength, 1)) (hh : h a = some (.inl (t, n, .inl f))) (ht : t < 5) (k : fx_Y g M d lo K KX (pc + 1) lv (.int (nI n) :: st) h cu su) : fx_Y g M d lo K KX pc lv (.ref a :: st) h cu su := by
  intro p l e R s m args below meth c H locs cells slots ls hC hR hl h1 h2 h3
  exact W.alen (n := Int32.ofNat n) hC.x hC.b (hR.1 a _ hh).2 ((hC.k.2.1 t ht).1 n (fun j => .int (f j))) (by show (arrV _ _ _).slots.size.toInt32 = _; rw [arrV_size]) rfl rfl hd (k p l e R s m args below meth c H locs cells slots ls hC hR hl h1 h2 h3)
theorem fx_aald {a n : Nat} {i : Int32} {f : Nat → Option Nat} (hd : decode M.2.1 pc = .ok (.aaload, 1)) (hh : h a = some (.inl (4, n, .inr (.inr (.inr (.inr f)))))) (hi : vp_in i n) (k : fx_Y g M d lo K KX (pc + 1) lv (va_rf (f i.toNatClampNeg) :: st) h cu su) : fx_Y g M d lo K KX pc lv (.int i :: .ref a :: st) h cu su := by
  intro p l e R s m args below meth c H locs cells slots ls hC hR hl h1 h2 h3
  have hlt : i.toNatClampNeg < n := Nat.not_le.mp fun q => hi (Or.inr q)
  exact W.aald (v := va_rf (f i.toNatClampNeg)) (ty := fx_ty 4) hC.x hC.b (hR.1 a _ hh).2 ((hC.k.2.1 4 (by decide)).1 n (fun j => va_rf (f j))) rfl (fun q => by cases q) (by show ¬ (i < 0 ∨ (arrV _ _ _).slots.size ≤ _); rw [arrV_size]; exact hi) (by show (arrV _ _ _).slots[_]? = _; rw [arrV_read _ _ hlt]) rfl rfl hd (k p l e R s m args below meth c H locs cells slots ls hC hR hl h1 h2 h3)
theorem fx_aast {a n v : Nat} {i : Int32} {f : Nat → Option Nat} {vs : List Value} (hd : decode M.2.1 pc = .ok (.aastore, 1)) (hh : h a = some (.inl (4, n, .inr (.inr (.inr (.inr f)))))) (hv : h v = some (.inr (2, vs))) (hi : vp_in i n) (k : fx_Y g M d lo K KX (pc + 1) lv st (va_up h a (some (.inl (4, n, .inr (.inr (.inr (.inr (va_up f i.toNatClampNeg (some v))))))))) cu su) : fx_Y g M d lo K KX pc lv (.ref v :: .int i :: .ref a :: st) h cu su := by
  intro p l e R s m args below meth c H locs cells slots ls hC hR hl h1 h2 h3
  have hlt : i.toNatClampNeg < n := Nat.not_le.mp fun q => hi (Or.inr q)
  have h0 : ¬ i < 0 := fun q => hi (Or.inl q)
  obtain ⟨r', hr', cellV, g1, g2, g3, -⟩ := (hR.1 v _ hv).2
  have hcls := (hC.k.1 2 (RX3, TX3, 5) rfl).2
  obtain ⟨kA, comp, k1, k2, k3, -⟩ := (hC.k.2.1 4 (by decide)).2
  have hcomp : comp = g.1.1 2 := Option.some.inj (k3.symm.trans hcls.1)
  subst hcomp
  have hcls' := hcls
  obtain ⟨kC, hkC, -⟩ := hcls'.2
  refine W.aast hC.x hC.b (hR.1 a _ hh).2 (fun q h => by cases h) (fun h => by cases h) k1 k2 rfl hkC ⟨h0, by show _ < (arrV _ _ _).slots.size; rw [arrV_size]; exact hlt⟩ g1 (fun q h => by rw [g3] at h; cases h) (by rw [g2]; exact hkC) (by rw [g2]; exact va_assign hcls) rfl rfl hd fun H1 e9 z oq => ?_
  refine k p l e R s m args below meth c H1 _ cells slots ls hC (hR.set (hR.1 a _ hh).1 ?_ (Nat.le_of_eq z.symm) (fun q hq _ => oq q hq)) hl h1 h2 (fun q hq => ?_)
  · show H1[a]? = some (vp_cell _ _)
    rw [e9]
    rw [vp_cell_q, vp_cell_q, arrV_store]
    congr 2
    funext q
    by_cases hq : q = i.toNatClampNeg
    · subst hq
      simp [updV, va_up, va_rf]
    · simp [updV, va_up, hq]
  · rcases List.mem_append.mp hq with hq | hq
    · exact h3 q hq
    · rw [List.mem_singleton.mp hq]
      exact (hR.1 a _ hh).1
theorem fx_new {idx ci N : Nat} {C : String} {T : u_T} (ty0 : Nat → FieldType) (fs : List Value) (hd : decode M.2.1 pc = .ok (.new idx, 3)) (hc : vwCl[ci]? = some (C, T, N)) (hin : ∀ w ∈ u_ws C T N, w ∈ fx_ws) (hty : ∀ k, k < N → parseFieldDescriptor (T k).2.2.1 = some (ty0 k)) (hcl : Cond.classLink M.1.cls idx C ∈ fx_ws) (hins : Cond.instantiable C N ∈ fx_ws) (hini : Cond.initialized C ∈ fx_ws) (hfs : ∀ j, j < N → defaultValue (ty0 j) = vp_V fs j) (hcu : 1 ≤ cu) (hsu : N ≤ su)
    (k : ∀ a : Nat, h a = none → fx_Y g M d lo K KX (pc + 3) lv (.ref a :: st) (va_up h a (some (.inr (ci, fs)))) (cu - 1) (su - N)) : fx_Y g M d lo K KX pc lv st h cu su := by
  intro p l e R s m args below meth c H locs cells slots ls hC hR hl h1 h2 h3
  have hKn := hC.k.1 ci _ hc
  refine W.newcK hC.x hC.b hC.own (hC.ts _ hcl) (hC.ts _ hins) (hC.ts _ hini) rfl hd (by omega) (by omega) hKn.2.1 rfl fun H1 kC hkC e1 z1 o1 => ?_
  refine k H.size hR.fresh p l e R s m args below meth c H1 locs (cells + 1) (slots + N) ls hC (hR.set hR.2 ?_ (by omega) (fun q hq hl => o1 q hl)) hl (by omega) (by omega) h3
  exact ⟨_, hc, t_OB.to (u_born ty0 hC.ts hin hKn hkC e1 hty) (fun j hj => hfs j hj)⟩
theorem fx_newI {at9 : ArrayType} {n : Int32} (t N : Nat) (ht : t < 3) (hat : newarray.typeOf at9 = fx_ty t) (hd : decode M.2.1 pc = .ok (.newarray at9, 2)) (hw : Cond.arrayClass (newarray.typeOf at9) ∈ fx_ws) (hn : ¬ n < 0) (hN : n.toNatClampNeg = N) (hb9 : N ≤ 1000000) (hcu : 1 ≤ cu) (hsu : N ≤ su)
    (k : ∀ a : Nat, h a = none → fx_Y g M d lo K KX (pc + 2) lv (.ref a :: st) (va_up h a (some (.inl (t, N, .inl (fun _ => 0))))) (cu - 1) (su - N)) : fx_Y g M d lo K KX pc lv (.int n :: st) h cu su := by
  intro p l e R s m args below meth c H locs cells slots ls hC hR hl h1 h2 h3
  subst hN
  refine W.newa hC.x hC.b (hC.ts _ hw) rfl hd rfl hn ?_ (by omega) (by omega) fun cA kA comp f1 f2 f3 => ?_
  · have : componentBytes (newarray.typeOf at9) ≤ 8 := by cases at9 <;> decide
    calc _ ≤ 1000000 * 8 := Nat.mul_le_mul hb9 this
      _ ≤ _ := by decide
  have hA : cA = g.2.1 t := by
    have h5 := (hC.k.2.1 t (by omega)).2
    rw [hat] at f1
    have h6 : s.vm.findClass ("[" ++ (fx_ty t).toString) = some (g.2.1 t) := by
      match t, ht, h5 with
      | 0, _, h5 => exact h5
      | 1, _, h5 => exact h5
      | 2, _, h5 => exact h5
    exact Option.some.inj (f1.symm.trans h6)
  subst hA
  generalize hH1 : H.push ({ cls := g.2.1 t, slots := Array.replicate n.toNatClampNeg (defaultValue (newarray.typeOf at9)), vm := .none } : Cell) = H1
  have z1 : H1.size = H.size + 1 := by rw [← hH1, Array.size_push]
  have hdv : defaultValue (newarray.typeOf at9) = .int 0 := by
    rw [hat]
    match t, ht with
    | 0, _ => rfl
    | 1, _ => rfl
    | 2, _ => rfl
  have e1 : H1[H.size]? = some (arrV (g.2.1 t) n.toNatClampNeg (fun _ => .int 0)) := by rw [← hH1, Array.getElem?_push_size, ← arrV_new, hdv]
  have o1 : ∀ q : Nat, q < H.size → H1[q]? = H[q]? := fun q hq => by rw [← hH1, Array.getElem?_push, if_neg (Nat.ne_of_lt hq)]
  exact k H.size hR.fresh p l e R s m args below meth c H1 locs (cells + 1) (slots + n.toNatClampNeg) ls hC (hR.set hR.2 e1 (by omega) (fun q hq hl => o1 q hl)) hl (by omega) (by omega) h3
end FXR
