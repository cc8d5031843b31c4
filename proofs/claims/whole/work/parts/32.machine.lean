/-! The machine, as lists: what it has passed, the sign that it stands behind, what is ahead. A sign: its kind, its code. -/
abbrev sg : Type := Nat × Int32
def nf (P : List sg) : List sg := P.filter (fun s => decide (s.1 ≠ 3))
theorem nf_app (P Q : List sg) : nf (P ++ Q) = nf P ++ nf Q := List.filter_append _ _
theorem nf_1 {x : sg} (h : x.1 ≠ 3) : nf [x] = [x] := by
  unfold nf
  rw [List.filter_cons, if_pos (decide_eq_true h)]
  rfl
theorem nf_0 {x : sg} (h : x.1 = 3) : nf [x] = [] := by
  unfold nf
  rw [List.filter_cons, if_neg (by simp [h])]
  rfl
theorem nf_le (P : List sg) : (nf P).length ≤ P.length := List.length_filter_le _ _
/-- a list in two rows -/
def sl (L : List sg) (fk fc : Nat → Int32) : Prop := ∀ j s, L[j]? = some s → fk j = nI s.1 ∧ fc j = s.2
theorem sl.push {L : List sg} {fk fc : Nat → Int32} (h : sl L fk fc) (s : sg) : sl (L ++ [s]) (upd fk L.length (nI s.1)) (upd fc L.length s.2) := by
  intro j t ht
  by_cases q : j < L.length
  · rw [List.getElem?_append_left q] at ht
    rw [pk_un (by omega), pk_un (by omega)]
    exact h j t ht
  · rw [List.getElem?_append_right (by omega)] at ht
    by_cases q2 : j - L.length = 0
    · rw [q2] at ht
      cases ht
      rw [show j = L.length by omega, pk_us, pk_us]
      exact ⟨rfl, rfl⟩
    · rw [List.getElem?_eq_none (by simp; omega)] at ht
      cases ht
theorem sl.pop {L : List sg} {s : sg} {fk fc : Nat → Int32} (h : sl (L ++ [s]) fk fc) : sl L fk fc ∧ fk L.length = nI s.1 ∧ fc L.length = s.2 := by
  refine ⟨fun j t ht => h j t ?_, h _ _ ?_⟩
  · rw [List.getElem?_append_left (by rcases Nat.lt_or_ge j L.length with q | q; exact q; rw [List.getElem?_eq_none q] at ht; cases ht)]
    exact ht
  · rw [List.getElem?_append_right (Nat.le_refl _), Nat.sub_self]
    rfl
theorem sl.nil {fk fc : Nat → Int32} : sl [] fk fc := fun j s h => by simp at h
def mz_i (b : Nat → Nat) (x y : sg) : Int32 := ml_seek b y.2 (ml_rl b 6) (ml_ps b x.2.toNatClampNeg)
def mz_k (b : Nat → Nat) (z i : Int32) : Int32 := ml_sc z (nI (ml_e b 7 (256 * (ml_o b i - 128) + ml_r b i)))
def mz_s (b : Nat → Nat) (z : Int32) (P : List sg) (x y : sg) (A : List sg) : List sg × sg × List sg :=
  if mz_i b x y = -1 then (P ++ [x], y, A)
  else if 128 ≤ ml_o b (mz_i b x y) then (P ++ [x, (2, mz_k b z (mz_i b x y))], y, A)
  else if ml_o b (mz_i b x y) = 0 then (P, (1, nI (ml_r b (mz_i b x y))), A)
  else if ml_o b (mz_i b x y) = 1 then (P, (1, nI (ml_r b (mz_i b x y))), y :: A)
  else if ml_o b (mz_i b x y) = 5 then (P ++ [(1, nI (ml_r b (mz_i b x y)))], y, A)
  else if ml_o b (mz_i b x y) = 2 then (P, x, (1, nI (ml_r b (mz_i b x y))) :: A)
  else if ml_o b (mz_i b x y) = 6 then (P ++ [x], (1, nI (ml_r b (mz_i b x y))), A)
  else if ml_o b (mz_i b x y) = 3 then (P, x, (1, nI (ml_r b (mz_i b x y))) :: y :: A)
  else if ml_o b (mz_i b x y) = 7 then (P ++ [x], (1, nI (ml_r b (mz_i b x y))), y :: A)
  else (P ++ [x, (1, nI (ml_r b (mz_i b x y)))], y, A)
def mz_n (t : List sg × sg × List sg) : Nat := t.1.length + 1 + t.2.2.length
def mz_run (b : Nat → Nat) (z : Int32) : Nat → List sg → sg → List sg → Option (List sg)
  | 0, P, x, A => if A.isEmpty then some (P ++ [x]) else none
  | _ + 1, P, x, [] => some (P ++ [x])
  | n + 1, P, x, y :: A => if 1000 < mz_n (mz_s b z P x y A) then none else mz_run b z n (mz_s b z P x y A).1 (mz_s b z P x y A).2.1 (mz_s b z P x y A).2.2
theorem mz_run_nil (b : Nat → Nat) (z : Int32) (n : Nat) (P : List sg) (x : sg) : mz_run b z n P x [] = some (P ++ [x]) := by
  cases n <;> rfl
/-- signs that are characters of the font -/
def gc1 (b : Nat → Nat) (s : sg) : Prop := (s.1 = 0 ∨ s.1 = 1) ∧ ∃ c : Nat, c < 256 ∧ s.2 = nI c ∧ ml_i b c ≠ 0
def gsg (b : Nat → Nat) (s : sg) : Prop := gc1 b s ∨ s.1 = 2 ∨ s.1 = 3
def gA (b : Nat → Nat) : List sg → Prop
  | [] => True
  | y :: A => (gc1 b y ∨ (A = [] ∧ y = (3, ml_bd b))) ∧ gA b A
def gx (b : Nat → Nat) (x : sg) (A : List sg) : Prop := gc1 b x ∨ x = (3, nI 256) ∨ (A = [] ∧ x = (3, ml_bd b))
def gst (b : Nat → Nat) (P : List sg) (x : sg) (A : List sg) : Prop := (∀ s ∈ P, gsg b s) ∧ gx b x A ∧ gA b A
theorem gc1.k {b : Nat → Nat} {s : sg} (h : gc1 b s) : s.1 ≠ 3 ∧ s.1 < 4 := by
  rcases h.1 with q | q <;> omega
theorem gx.g {b : Nat → Nat} {x : sg} {A : List sg} (h : gx b x A) : gsg b x := by
  rcases h with q | q | q
  · exact Or.inl q
  · exact Or.inr (Or.inr (by rw [q]))
  · exact Or.inr (Or.inr (by rw [q.2]))
theorem gx.k {b : Nat → Nat} {x : sg} {A : List sg} (h : gx b x A) : x.1 < 4 := by
  rcases h with q | q | q
  · exact q.k.2
  · rw [q]; decide
  · rw [q.2]; show 3 < 4; decide
/-- the code of the sign that the machine stands behind, where something is ahead -/
theorem gx.c {b : Nat → Nat} {x y : sg} {A : List sg} (h : gx b x (y :: A)) : ∃ c : Nat, c ≤ 256 ∧ x.2 = nI c := by
  rcases h with q | q | q
  · obtain ⟨-, c, h1, h2, -⟩ := q
    exact ⟨c, by omega, h2⟩
  · exact ⟨256, Nat.le_refl _, by rw [q]⟩
  · exact absurd q.1 (by simp)
theorem gA.y {b : Nat → Nat} {y : sg} {A : List sg} (h : gA b (y :: A)) : gx b y A := h.1.elim Or.inl (fun q => Or.inr (Or.inr q))
theorem gsts {b : Nat → Nat} {P : List sg} (h : ∀ s ∈ P, gsg b s) (L : List sg) (hL : ∀ s ∈ L, gsg b s) : ∀ s ∈ P ++ L, gsg b s := fun s hs => (List.mem_append.mp hs).elim (h s) (hL s)
/-- a step for the pair is a step of the file -/
theorem mz_ok {b : Nat → Nat} {nw : Nat} (V : ml_v b nw) (F3 : ml_F3a b) (F5 : ml_f5 b) {x y : sg} {A : List sg} (hx : gx b x (y :: A)) (h : mz_i b x y ≠ -1) : ∃ j, j < ml_rl b 6 ∧ mz_i b x y = nI j ∧ (¬ 128 ≤ ml_o b (nI j) → ml_lig (ml_o b (nI j)) ∧ ml_i b (ml_r b (nI j)) ≠ 0) ∧ (128 ≤ ml_o b (nI j) → 256 * (ml_o b (nI j) - 128) + ml_r b (nI j) < ml_rl b 7) := by
  obtain ⟨c, hc, hc2⟩ := hx.c
  have h1 : x.2.toNatClampNeg = c := by rw [hc2, nI_clamp (by omega)]
  have h2 := seek_ok V F5 y.2 (ml_rl b 6) _ (ok_ps V F3 F5 hc)
  unfold mz_i at h ⊢
  rw [h1] at h ⊢
  rcases h2 with q | ⟨j, hj, q, q2, -⟩
  · exact absurd q h
  · refine ⟨j, hj, q, ?_, ?_⟩
    · intro ho
      have h3 := F5 j hj
      unfold ml_stp at h3
      rw [if_neg q2] at h3
      have h4 := h3.2.2
      rw [if_neg ho] at h4
      exact ⟨h4.2, h4.1⟩
    · intro ho
      have h3 := F5 j hj
      unfold ml_stp at h3
      rw [if_neg q2] at h3
      have h4 := h3.2.2
      rw [if_pos ho] at h4
      exact h4
theorem mz_g {b : Nat → Nat} {nw : Nat} {z : Int32} (V : ml_v b nw) (F3 : ml_F3a b) (F5 : ml_f5 b) {P : List sg} {x y : sg} {A : List sg} (h : gst b P x (y :: A)) : gst b (mz_s b z P x y A).1 (mz_s b z P x y A).2.1 (mz_s b z P x y A).2.2 := by
  obtain ⟨hP, hx, hA⟩ := h
  have hx1 := hx.g
  have hxx : gc1 b x ∨ x = (3, nI 256) := by
    rcases hx with q | q | q
    · exact Or.inl q
    · exact Or.inr q
    · exact absurd q.1 (by simp)
  have hxA : ∀ B, gx b x B := fun B => hxx.elim Or.inl (fun q => Or.inr (Or.inl q))
  have e1 : ∀ s : sg, gsg b s → ∀ t ∈ [s], gsg b t := fun s hs t ht => by rw [List.mem_singleton.mp ht]; exact hs
  have e2 : ∀ s t : sg, gsg b s → gsg b t → ∀ u ∈ [s, t], gsg b u := fun s t hs ht u hu => by
    rcases List.mem_cons.mp hu with rfl | hu
    · exact hs
    · rw [List.mem_singleton.mp hu]
      exact ht
  unfold mz_s
  by_cases q : mz_i b x y = -1
  · rw [if_pos q]
    exact ⟨gsts hP _ (e1 x hx1), hA.y, hA.2⟩
  · rw [if_neg q]
    obtain ⟨j, hj, hij, hlg, -⟩ := mz_ok V F3 F5 hx q
    rw [hij]
    by_cases q1 : 128 ≤ ml_o b (nI j)
    · rw [if_pos q1]
      exact ⟨gsts hP _ (e2 x _ hx1 (Or.inr (Or.inl rfl))), hA.y, hA.2⟩
    · rw [if_neg q1]
      have hr : gc1 b ((1, nI (ml_r b (nI j))) : sg) := ⟨Or.inr rfl, _, ml_r_lt _, rfl, (hlg q1).2⟩
      split
      · exact ⟨hP, Or.inl hr, hA.2⟩
      · split
        · exact ⟨hP, Or.inl hr, hA⟩
        · split
          · exact ⟨gsts hP _ (e1 _ (Or.inl hr)), hA.y, hA.2⟩
          · split
            · exact ⟨hP, hxA _, Or.inl hr, hA.2⟩
            · split
              · exact ⟨gsts hP _ (e1 x hx1), Or.inl hr, hA.2⟩
              · split
                · exact ⟨hP, hxA _, Or.inl hr, hA⟩
                · split
                  · exact ⟨gsts hP _ (e1 x hx1), Or.inl hr, hA⟩
                  · exact ⟨gsts hP _ (e2 x _ hx1 (Or.inl hr)), hA.y, hA.2⟩
/-- the widths of a list of signs, from the left -/
def mz_w (b : Nat → Nat) (z : Int32) : Int64 → List sg → Int64
  | t, [] => t
  | t, s :: L => mz_w b z (t + (if s.1 = 2 then s.2 else ml_ms b z s.2 0).toInt64) L
theorem mz_w_app (b : Nat → Nat) (z : Int32) : ∀ (L Q : List sg) (t : Int64), mz_w b z t (L ++ Q) = mz_w b z (mz_w b z t L) Q := by
  intro L
  induction L with
  | nil => intro Q t; rfl
  | cons s L ih => intro Q t; exact ih Q _
theorem seek_neg {b : Nat → Nat} {y : Int32} (hy : y < 0) : ∀ (n : Nat) (i : Int32), ml_seek b y n i = -1 := by
  intro n
  induction n with
  | zero => intro i; rfl
  | succ n ih =>
    intro i
    unfold ml_seek
    split
    · rfl
    · rw [if_neg (fun q => ?_)]
      · exact ih _
      · have h1 := ml_n_lt (b := b) i
        rw [← q.2] at hy
        exact nI_pos (by omega) hy

