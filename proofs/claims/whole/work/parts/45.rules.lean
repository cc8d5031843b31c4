/-! Rules that FontDesk's own methods and the law want beside those of the core. -/
section FXN
variable {g : fx_G} {M M' : fx_M} {d lo d' lo' : Nat} {K K' : Option Value → fx_H → Prop} {KX : String → fx_H → Prop} {pc : Nat} {lv : List (Nat × Value)} {st stk As : List Value} {h : fx_H} {cu su mc ms n idx b : Nat}
theorem fx_astoreN {i : Nat} (hd : decode M.2.1 pc = .ok (.astore i, 2)) (hi : i < M.2.2.1) (k : fx_Y g M d lo K KX (pc + 2) (fx_s1 lv i .null) st h cu su) : fx_Y g M d lo K KX pc lv (.null :: st) h cu su := by
  intro p l e R s m args below meth c H locs cells slots ls hC hR hl h1 h2 h3
  exact lv_astoreN hC.x hC.b hd hl hi rfl (fun ls' hl' => k p l e R s m args below meth c H locs cells slots ls' hC hR hl' h1 h2 h3)
theorem fx_callCN {host : String} (hd : decode M.2.1 pc = .ok (.invokespecial idx, 3)) (hV : fx_Vc M' n) (hlk : ∀ s : State, fx_K g s → va_Nw (.methodLinkNest M.1.cls idx M'.1 host) s) (hM : fx_Met g M' d' lo' (.ref b :: As) h mc ms K') (hn : As.length = n) (hdd : d' + 1 ≤ d) (hll : 19 + M'.2.2.1 + lo' ≤ lo) (hmc : mc ≤ cu) (hms : ms ≤ su) (hstk : stk = As.reverse ++ .ref b :: st) (hst : (st.map fun v => v.category).sum ≤ 8)
    (k : ∀ (r : Option Value) (h' : fx_H), K' r h' → fx_Y g M d lo K KX (pc + 3) lv (r.toList ++ st) h' (cu - mc) (su - ms)) : fx_Y g M d lo K KX pc lv stk h cu su := by
  intro p l e R s m args below meth c H locs cells slots ls hC hR hl h1 h2 h3
  obtain ⟨⟨v1, v2, v3⟩, v4, v5, v6⟩ := hV
  have hcd := hC.d
  have hlo := hC.lo
  have cb := va_cnB (R := R) (s := s) (args := args) (own := M.1.cls) (index := idx) (y := M'.1) (bytes := M'.2.1) (maxL := M'.2.2.1) (ret := M'.2.2.2) (rm := { frames := d', cells := mc, slots := ms, locals := lo' }) (mc := mc) (ms := ms) n hC.ts (fx_good v1) rfl rfl rfl (hlk s hC.k) (hC.ts _ v2) v3 ⟨by show d' + 1 ≤ _; omega, by show 8 + (M'.2.2.1 + 11) + lo' ≤ _; omega⟩
  rw [v6] at cb
  intro T hT X
  obtain ⟨v, st₀, t, T', L, h0, X', hL, e1, -, ⟨r, h', er, eK, eR⟩, sts⟩ := va_runIN (b := b) (As := As) (rest := st) (g := F0 m pc ls stk) (nL := M.2.2.1) ⟨hC.x, hC.b, hC.ml, hC.own, hC.ts⟩ (by have := hM l; rw [v6] at this; exact this) ⟨cb, v5, hC.ts _ v4⟩ ⟨fx_blind, fun U hU hW => ⟨rfl, hC.k.moved hW, by rw [hU]; exact hR⟩⟩ rfl hn hl.1 hstk (by show 2 * 0 + _ ≤ 8; omega) hd ⟨by omega, by omega⟩ T hT X
  cases er
  obtain ⟨t2, a1, b1⟩ := k v h' eK p l e R s m args below meth c T'.heap (locs ++ L) (cells + mc) (slots + ms) ls hC (by rw [e1]; exact eR) hl (by omega) (by omega) (fun q hq => (List.mem_append.mp hq).elim (h3 q) (hL q)) T' rfl X'
  exact ⟨t2, sts t2 a1, b1⟩
theorem fx_newq {n : Int32} (N : Nat) (hd : decode M.2.1 pc = .ok (.anewarray idx, 3)) (hcl : Cond.classLink M.1.cls idx RX3 ∈ fx_ws) (hn : ¬ n < 0) (hN : n.toNatClampNeg = N) (hb9 : N ≤ 1000000) (hcu : 1 ≤ cu) (hsu : N ≤ su)
    (k : ∀ (a : Nat) (h' : fx_H), h a = none → h' a = some (.inl (4, N, .inr (.inr (.inr (.inr (fun _ => none)))))) → (∀ x, x ≠ a → h' x = h x) → fx_Y g M d lo K KX (pc + 3) lv (.ref a :: st) h' (cu - 1) (su - N)) : fx_Y g M d lo K KX pc lv (.int n :: st) h cu su := by
  intro p l e R s m args below meth c H locs cells slots ls hC hR hl h1 h2 h3
  subst hN
  refine W.anew hC.x hC.b hC.own (hC.ts _ hcl) (va_AO.use hC.k.2.2.2.2.2) rfl hd rfl hn (by omega) (by omega) (by omega) fun cA kA comp f1 f2 f3 f4 => ?_
  have hA : cA = g.2.1 4 := by
    obtain ⟨kB, cB, b1, b2, b3, b4⟩ := (hC.k.2.1 4 (by decide)).2
    exact Option.some.inj (f1.symm.trans b4)
  subst hA
  generalize hH1 : H.push ({ cls := g.2.1 4, slots := Array.replicate n.toNatClampNeg .null, vm := .none } : Cell) = H1
  have z1 : H1.size = H.size + 1 := by rw [← hH1, Array.size_push]
  have e1 : H1[H.size]? = some (arrV (g.2.1 4) n.toNatClampNeg (fun _ => .null)) := by rw [← hH1, Array.getElem?_push_size, ← arrV_new]
  have o1 : ∀ q : Nat, q < H.size → H1[q]? = H[q]? := fun q hq => by rw [← hH1, Array.getElem?_push, if_neg (Nat.ne_of_lt hq)]
  exact k H.size _ hR.fresh (va_up_self _ _ _) (fun _ hx => va_up_ne _ _ hx) p l e R s m args below meth c H1 locs (cells + 1) (slots + n.toNatClampNeg) ls hC (hR.set hR.2 e1 (by omega) (fun q hq hl => o1 q hl)) hl (by omega) (by omega) h3
theorem fx_newL {n : Int32} (N : Nat) (hd : decode M.2.1 pc = .ok (.newarray .long, 2)) (hn : ¬ n < 0) (hN : n.toNatClampNeg = N) (hb9 : N ≤ 1000000) (hcu : 1 ≤ cu) (hsu : N ≤ su)
    (k : ∀ (a : Nat) (h' : fx_H), h a = none → h' a = some (.inl (3, N, .inr (.inl (fun _ => 0)))) → (∀ x, x ≠ a → h' x = h x) → fx_Y g M d lo K KX (pc + 2) lv (.ref a :: st) h' (cu - 1) (su - N)) : fx_Y g M d lo K KX pc lv (.int n :: st) h cu su := by
  intro p l e R s m args below meth c H locs cells slots ls hC hR hl h1 h2 h3
  subst hN
  refine W.newa hC.x hC.b (show (Cond.arrayClass (newarray.typeOf .long)).before args s = true from hC.ts _ ac_long) rfl hd rfl hn (Nat.le_trans (Nat.mul_le_mul hb9 (show componentBytes (newarray.typeOf .long) ≤ 8 by decide)) (by decide)) (by omega) (by omega) fun cA kA comp f1 f2 f3 => ?_
  have hA : cA = g.2.1 3 := Option.some.inj (f1.symm.trans (hC.k.2.1 3 (by decide)).2)
  subst hA
  generalize hH1 : H.push ({ cls := g.2.1 3, slots := Array.replicate n.toNatClampNeg (defaultValue (newarray.typeOf .long)), vm := .none } : Cell) = H1
  have z1 : H1.size = H.size + 1 := by rw [← hH1, Array.size_push]
  have e1 : H1[H.size]? = some (arrV (g.2.1 3) n.toNatClampNeg (fun _ => .long 0)) := by rw [← hH1, Array.getElem?_push_size, ← arrV_new]; rfl
  have o1 : ∀ q : Nat, q < H.size → H1[q]? = H[q]? := fun q hq => by rw [← hH1, Array.getElem?_push, if_neg (Nat.ne_of_lt hq)]
  exact k H.size _ hR.fresh (va_up_self _ _ _) (fun _ hx => va_up_ne _ _ hx) p l e R s m args below meth c H1 locs (cells + 1) (slots + n.toNatClampNeg) ls hC (hR.set hR.2 e1 (by omega) (fun q hq hl => o1 q hl)) hl (by omega) (by omega) h3
end FXN
