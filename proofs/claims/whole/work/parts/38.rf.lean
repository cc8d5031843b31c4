/-! FontDeskModel: the whole object -/
def rx (h : fx_H) (m pb pf pz pt pp ph pk pc : Nat) (fb ff fz ft fp fh fk fc : Nat → Int32) (th : Int32) (len nfo fl : Nat) (bs : Int32) (it : Nat) (wi : Int64) : Prop := h m = some (.inr (5, [.int th, .ref pb, .int (nI len), .int (nI nfo), .ref pf, .ref pz, .int (nI fl), .int bs, .ref pt, .ref pp, .ref ph, .int (nI it), .ref pk, .ref pc, .long wi])) ∧ (h pb = some (.inl (0, 40000, .inl fb)) ∧ h pf = some (.inl (0, 33, .inl ff)) ∧ h pz = some (.inl (0, 32, .inl fz)) ∧ h pt = some (.inl (0, 65792, .inl ft)) ∧ h pp = some (.inl (0, 65792, .inl fp)) ∧ h ph = some (.inl (2, 257, .inl fh)) ∧ h pk = some (.inl (0, 1002, .inl fk)) ∧ h pc = some (.inl (0, 1002, .inl fc))) ∧ ∃ c : Nat → Nat, c pb = 1 ∧ c pf = 2 ∧ c pz = 3 ∧ c pt = 4 ∧ c pp = 5 ∧ c ph = 6 ∧ c pk = 7 ∧ c pc = 8
/-- its cells -/
def rC (m pb pf pz pt pp ph pk pc : Nat) : Nat → Prop := fun x => x = m ∨ x = pb ∨ x = pf ∨ x = pz ∨ x = pt ∨ x = pp ∨ x = ph ∨ x = pk ∨ x = pc
theorem rx.obj {h h' : fx_H} {m pb pf pz pt pp ph pk pc len nfo fl it len' nfo' fl' it' : Nat} {fb ff fz ft fp fh fk fc : Nat → Int32} {th bs th' bs' : Int32} {wi wi' : Int64} (E : rx h m pb pf pz pt pp ph pk pc fb ff fz ft fp fh fk fc th len nfo fl bs it wi) (q : h' m = some (.inr (5, [.int th', .ref pb, .int (nI len'), .int (nI nfo'), .ref pf, .ref pz, .int (nI fl'), .int bs', .ref pt, .ref pp, .ref ph, .int (nI it'), .ref pk, .ref pc, .long wi']))) (o : ∀ x, x ≠ m → h' x = h x) : rx h' m pb pf pz pt pp ph pk pc fb ff fz ft fp fh fk fc th' len' nfo' fl' bs' it' wi' := by
  obtain ⟨e0, ⟨e1, e2, e3, e4, e5, e6, e7, e8⟩, c, c1, c2, c3, c4, c5, c6, c7, c8⟩ := E
  exact ⟨q, ⟨(o _ (Ne.symm (ne_oa e0 e1))).trans e1, (o _ (Ne.symm (ne_oa e0 e2))).trans e2, (o _ (Ne.symm (ne_oa e0 e3))).trans e3, (o _ (Ne.symm (ne_oa e0 e4))).trans e4, (o _ (Ne.symm (ne_oa e0 e5))).trans e5, (o _ (Ne.symm (ne_oa e0 e6))).trans e6, (o _ (Ne.symm (ne_oa e0 e7))).trans e7, (o _ (Ne.symm (ne_oa e0 e8))).trans e8⟩, c, c1, c2, c3, c4, c5, c6, c7, c8⟩
theorem rx.fb {h h' : fx_H} {m pb pf pz pt pp ph pk pc len nfo fl it : Nat} {fb ff fz ft fp fh fk fc : Nat → Int32} {th bs : Int32} {wi : Int64} {f' : Nat → Int32} (E : rx h m pb pf pz pt pp ph pk pc fb ff fz ft fp fh fk fc th len nfo fl bs it wi) (q : h' pb = some (.inl (0, 40000, .inl f'))) (o : ∀ x, x ≠ pb → h' x = h x) : rx h' m pb pf pz pt pp ph pk pc f' ff fz ft fp fh fk fc th len nfo fl bs it wi := by
  obtain ⟨e0, ⟨e1, e2, e3, e4, e5, e6, e7, e8⟩, c, c1, c2, c3, c4, c5, c6, c7, c8⟩ := E
  exact ⟨(o _ (ne_oa e0 e1)).trans e0, ⟨q, (o _ (fun z => absurd ((c2.symm.trans (congrArg c z)).trans c1) (by decide))).trans e2, (o _ (fun z => absurd ((c3.symm.trans (congrArg c z)).trans c1) (by decide))).trans e3, (o _ (fun z => absurd ((c4.symm.trans (congrArg c z)).trans c1) (by decide))).trans e4, (o _ (fun z => absurd ((c5.symm.trans (congrArg c z)).trans c1) (by decide))).trans e5, (o _ (fun z => absurd ((c6.symm.trans (congrArg c z)).trans c1) (by decide))).trans e6, (o _ (fun z => absurd ((c7.symm.trans (congrArg c z)).trans c1) (by decide))).trans e7, (o _ (fun z => absurd ((c8.symm.trans (congrArg c z)).trans c1) (by decide))).trans e8⟩, c, c1, c2, c3, c4, c5, c6, c7, c8⟩
theorem rx.ff {h h' : fx_H} {m pb pf pz pt pp ph pk pc len nfo fl it : Nat} {fb ff fz ft fp fh fk fc : Nat → Int32} {th bs : Int32} {wi : Int64} {f' : Nat → Int32} (E : rx h m pb pf pz pt pp ph pk pc fb ff fz ft fp fh fk fc th len nfo fl bs it wi) (q : h' pf = some (.inl (0, 33, .inl f'))) (o : ∀ x, x ≠ pf → h' x = h x) : rx h' m pb pf pz pt pp ph pk pc fb f' fz ft fp fh fk fc th len nfo fl bs it wi := by
  obtain ⟨e0, ⟨e1, e2, e3, e4, e5, e6, e7, e8⟩, c, c1, c2, c3, c4, c5, c6, c7, c8⟩ := E
  exact ⟨(o _ (ne_oa e0 e2)).trans e0, ⟨(o _ (fun z => absurd ((c1.symm.trans (congrArg c z)).trans c2) (by decide))).trans e1, q, (o _ (fun z => absurd ((c3.symm.trans (congrArg c z)).trans c2) (by decide))).trans e3, (o _ (fun z => absurd ((c4.symm.trans (congrArg c z)).trans c2) (by decide))).trans e4, (o _ (fun z => absurd ((c5.symm.trans (congrArg c z)).trans c2) (by decide))).trans e5, (o _ (fun z => absurd ((c6.symm.trans (congrArg c z)).trans c2) (by decide))).trans e6, (o _ (fun z => absurd ((c7.symm.trans (congrArg c z)).trans c2) (by decide))).trans e7, (o _ (fun z => absurd ((c8.symm.trans (congrArg c z)).trans c2) (by decide))).trans e8⟩, c, c1, c2, c3, c4, c5, c6, c7, c8⟩
theorem rx.fz {h h' : fx_H} {m pb pf pz pt pp ph pk pc len nfo fl it : Nat} {fb ff fz ft fp fh fk fc : Nat → Int32} {th bs : Int32} {wi : Int64} {f' : Nat → Int32} (E : rx h m pb pf pz pt pp ph pk pc fb ff fz ft fp fh fk fc th len nfo fl bs it wi) (q : h' pz = some (.inl (0, 32, .inl f'))) (o : ∀ x, x ≠ pz → h' x = h x) : rx h' m pb pf pz pt pp ph pk pc fb ff f' ft fp fh fk fc th len nfo fl bs it wi := by
  obtain ⟨e0, ⟨e1, e2, e3, e4, e5, e6, e7, e8⟩, c, c1, c2, c3, c4, c5, c6, c7, c8⟩ := E
  exact ⟨(o _ (ne_oa e0 e3)).trans e0, ⟨(o _ (fun z => absurd ((c1.symm.trans (congrArg c z)).trans c3) (by decide))).trans e1, (o _ (fun z => absurd ((c2.symm.trans (congrArg c z)).trans c3) (by decide))).trans e2, q, (o _ (fun z => absurd ((c4.symm.trans (congrArg c z)).trans c3) (by decide))).trans e4, (o _ (fun z => absurd ((c5.symm.trans (congrArg c z)).trans c3) (by decide))).trans e5, (o _ (fun z => absurd ((c6.symm.trans (congrArg c z)).trans c3) (by decide))).trans e6, (o _ (fun z => absurd ((c7.symm.trans (congrArg c z)).trans c3) (by decide))).trans e7, (o _ (fun z => absurd ((c8.symm.trans (congrArg c z)).trans c3) (by decide))).trans e8⟩, c, c1, c2, c3, c4, c5, c6, c7, c8⟩
theorem rx.ft {h h' : fx_H} {m pb pf pz pt pp ph pk pc len nfo fl it : Nat} {fb ff fz ft fp fh fk fc : Nat → Int32} {th bs : Int32} {wi : Int64} {f' : Nat → Int32} (E : rx h m pb pf pz pt pp ph pk pc fb ff fz ft fp fh fk fc th len nfo fl bs it wi) (q : h' pt = some (.inl (0, 65792, .inl f'))) (o : ∀ x, x ≠ pt → h' x = h x) : rx h' m pb pf pz pt pp ph pk pc fb ff fz f' fp fh fk fc th len nfo fl bs it wi := by
  obtain ⟨e0, ⟨e1, e2, e3, e4, e5, e6, e7, e8⟩, c, c1, c2, c3, c4, c5, c6, c7, c8⟩ := E
  exact ⟨(o _ (ne_oa e0 e4)).trans e0, ⟨(o _ (fun z => absurd ((c1.symm.trans (congrArg c z)).trans c4) (by decide))).trans e1, (o _ (fun z => absurd ((c2.symm.trans (congrArg c z)).trans c4) (by decide))).trans e2, (o _ (fun z => absurd ((c3.symm.trans (congrArg c z)).trans c4) (by decide))).trans e3, q, (o _ (fun z => absurd ((c5.symm.trans (congrArg c z)).trans c4) (by decide))).trans e5, (o _ (fun z => absurd ((c6.symm.trans (congrArg c z)).trans c4) (by decide))).trans e6, (o _ (fun z => absurd ((c7.symm.trans (congrArg c z)).trans c4) (by decide))).trans e7, (o _ (fun z => absurd ((c8.symm.trans (congrArg c z)).trans c4) (by decide))).trans e8⟩, c, c1, c2, c3, c4, c5, c6, c7, c8⟩
theorem rx.fp {h h' : fx_H} {m pb pf pz pt pp ph pk pc len nfo fl it : Nat} {fb ff fz ft fp fh fk fc : Nat → Int32} {th bs : Int32} {wi : Int64} {f' : Nat → Int32} (E : rx h m pb pf pz pt pp ph pk pc fb ff fz ft fp fh fk fc th len nfo fl bs it wi) (q : h' pp = some (.inl (0, 65792, .inl f'))) (o : ∀ x, x ≠ pp → h' x = h x) : rx h' m pb pf pz pt pp ph pk pc fb ff fz ft f' fh fk fc th len nfo fl bs it wi := by
  obtain ⟨e0, ⟨e1, e2, e3, e4, e5, e6, e7, e8⟩, c, c1, c2, c3, c4, c5, c6, c7, c8⟩ := E
  exact ⟨(o _ (ne_oa e0 e5)).trans e0, ⟨(o _ (fun z => absurd ((c1.symm.trans (congrArg c z)).trans c5) (by decide))).trans e1, (o _ (fun z => absurd ((c2.symm.trans (congrArg c z)).trans c5) (by decide))).trans e2, (o _ (fun z => absurd ((c3.symm.trans (congrArg c z)).trans c5) (by decide))).trans e3, (o _ (fun z => absurd ((c4.symm.trans (congrArg c z)).trans c5) (by decide))).trans e4, q, (o _ (fun z => absurd ((c6.symm.trans (congrArg c z)).trans c5) (by decide))).trans e6, (o _ (fun z => absurd ((c7.symm.trans (congrArg c z)).trans c5) (by decide))).trans e7, (o _ (fun z => absurd ((c8.symm.trans (congrArg c z)).trans c5) (by decide))).trans e8⟩, c, c1, c2, c3, c4, c5, c6, c7, c8⟩
theorem rx.fh {h h' : fx_H} {m pb pf pz pt pp ph pk pc len nfo fl it : Nat} {fb ff fz ft fp fh fk fc : Nat → Int32} {th bs : Int32} {wi : Int64} {f' : Nat → Int32} (E : rx h m pb pf pz pt pp ph pk pc fb ff fz ft fp fh fk fc th len nfo fl bs it wi) (q : h' ph = some (.inl (2, 257, .inl f'))) (o : ∀ x, x ≠ ph → h' x = h x) : rx h' m pb pf pz pt pp ph pk pc fb ff fz ft fp f' fk fc th len nfo fl bs it wi := by
  obtain ⟨e0, ⟨e1, e2, e3, e4, e5, e6, e7, e8⟩, c, c1, c2, c3, c4, c5, c6, c7, c8⟩ := E
  exact ⟨(o _ (ne_oa e0 e6)).trans e0, ⟨(o _ (fun z => absurd ((c1.symm.trans (congrArg c z)).trans c6) (by decide))).trans e1, (o _ (fun z => absurd ((c2.symm.trans (congrArg c z)).trans c6) (by decide))).trans e2, (o _ (fun z => absurd ((c3.symm.trans (congrArg c z)).trans c6) (by decide))).trans e3, (o _ (fun z => absurd ((c4.symm.trans (congrArg c z)).trans c6) (by decide))).trans e4, (o _ (fun z => absurd ((c5.symm.trans (congrArg c z)).trans c6) (by decide))).trans e5, q, (o _ (fun z => absurd ((c7.symm.trans (congrArg c z)).trans c6) (by decide))).trans e7, (o _ (fun z => absurd ((c8.symm.trans (congrArg c z)).trans c6) (by decide))).trans e8⟩, c, c1, c2, c3, c4, c5, c6, c7, c8⟩
theorem rx.fk {h h' : fx_H} {m pb pf pz pt pp ph pk pc len nfo fl it : Nat} {fb ff fz ft fp fh fk fc : Nat → Int32} {th bs : Int32} {wi : Int64} {f' : Nat → Int32} (E : rx h m pb pf pz pt pp ph pk pc fb ff fz ft fp fh fk fc th len nfo fl bs it wi) (q : h' pk = some (.inl (0, 1002, .inl f'))) (o : ∀ x, x ≠ pk → h' x = h x) : rx h' m pb pf pz pt pp ph pk pc fb ff fz ft fp fh f' fc th len nfo fl bs it wi := by
  obtain ⟨e0, ⟨e1, e2, e3, e4, e5, e6, e7, e8⟩, c, c1, c2, c3, c4, c5, c6, c7, c8⟩ := E
  exact ⟨(o _ (ne_oa e0 e7)).trans e0, ⟨(o _ (fun z => absurd ((c1.symm.trans (congrArg c z)).trans c7) (by decide))).trans e1, (o _ (fun z => absurd ((c2.symm.trans (congrArg c z)).trans c7) (by decide))).trans e2, (o _ (fun z => absurd ((c3.symm.trans (congrArg c z)).trans c7) (by decide))).trans e3, (o _ (fun z => absurd ((c4.symm.trans (congrArg c z)).trans c7) (by decide))).trans e4, (o _ (fun z => absurd ((c5.symm.trans (congrArg c z)).trans c7) (by decide))).trans e5, (o _ (fun z => absurd ((c6.symm.trans (congrArg c z)).trans c7) (by decide))).trans e6, q, (o _ (fun z => absurd ((c8.symm.trans (congrArg c z)).trans c7) (by decide))).trans e8⟩, c, c1, c2, c3, c4, c5, c6, c7, c8⟩
theorem rx.fc {h h' : fx_H} {m pb pf pz pt pp ph pk pc len nfo fl it : Nat} {fb ff fz ft fp fh fk fc : Nat → Int32} {th bs : Int32} {wi : Int64} {f' : Nat → Int32} (E : rx h m pb pf pz pt pp ph pk pc fb ff fz ft fp fh fk fc th len nfo fl bs it wi) (q : h' pc = some (.inl (0, 1002, .inl f'))) (o : ∀ x, x ≠ pc → h' x = h x) : rx h' m pb pf pz pt pp ph pk pc fb ff fz ft fp fh fk f' th len nfo fl bs it wi := by
  obtain ⟨e0, ⟨e1, e2, e3, e4, e5, e6, e7, e8⟩, c, c1, c2, c3, c4, c5, c6, c7, c8⟩ := E
  exact ⟨(o _ (ne_oa e0 e8)).trans e0, ⟨(o _ (fun z => absurd ((c1.symm.trans (congrArg c z)).trans c8) (by decide))).trans e1, (o _ (fun z => absurd ((c2.symm.trans (congrArg c z)).trans c8) (by decide))).trans e2, (o _ (fun z => absurd ((c3.symm.trans (congrArg c z)).trans c8) (by decide))).trans e3, (o _ (fun z => absurd ((c4.symm.trans (congrArg c z)).trans c8) (by decide))).trans e4, (o _ (fun z => absurd ((c5.symm.trans (congrArg c z)).trans c8) (by decide))).trans e5, (o _ (fun z => absurd ((c6.symm.trans (congrArg c z)).trans c8) (by decide))).trans e6, (o _ (fun z => absurd ((c7.symm.trans (congrArg c z)).trans c8) (by decide))).trans e7, q⟩, c, c1, c2, c3, c4, c5, c6, c7, c8⟩
theorem rx.kept {h h' : fx_H} {m pb pf pz pt pp ph pk pc len nfo fl it : Nat} {fb ff fz ft fp fh fk fc : Nat → Int32} {th bs : Int32} {wi : Int64} (E : rx h m pb pf pz pt pp ph pk pc fb ff fz ft fp fh fk fc th len nfo fl bs it wi) (k : ∀ q, rC m pb pf pz pt pp ph pk pc q → h' q = h q) : rx h' m pb pf pz pt pp ph pk pc fb ff fz ft fp fh fk fc th len nfo fl bs it wi := by
  obtain ⟨e0, ⟨e1, e2, e3, e4, e5, e6, e7, e8⟩, c, c1, c2, c3, c4, c5, c6, c7, c8⟩ := E
  exact ⟨(k _ (by simp [rC])).trans e0, ⟨(k _ (by simp [rC])).trans e1, (k _ (by simp [rC])).trans e2, (k _ (by simp [rC])).trans e3, (k _ (by simp [rC])).trans e4, (k _ (by simp [rC])).trans e5, (k _ (by simp [rC])).trans e6, (k _ (by simp [rC])).trans e7, (k _ (by simp [rC])).trans e8⟩, c, c1, c2, c3, c4, c5, c6, c7, c8⟩
theorem rx.rA {h : fx_H} {m pb pf pz pt pp ph pk pc len nfo fl it : Nat} {fb ff fz ft fp fh fk fc : Nat → Int32} {th bs : Int32} {wi : Int64} (E : rx h m pb pf pz pt pp ph pk pc fb ff fz ft fp fh fk fc th len nfo fl bs it wi) : ra h m pt pp ph ft fp fh := by
  obtain ⟨e0, ⟨e1, e2, e3, e4, e5, e6, e7, e8⟩, c, c1, c2, c3, c4, c5, c6, c7, c8⟩ := E
  exact ⟨_, e0, rfl, rfl, rfl, e4, e5, e6⟩
theorem rx.ne {h : fx_H} {m pb pf pz pt pp ph pk pc len nfo fl it : Nat} {fb ff fz ft fp fh fk fc : Nat → Int32} {th bs : Int32} {wi : Int64} (E : rx h m pb pf pz pt pp ph pk pc fb ff fz ft fp fh fk fc th len nfo fl bs it wi) : pt ≠ pp := by
  obtain ⟨e0, ⟨e1, e2, e3, e4, e5, e6, e7, e8⟩, c, c1, c2, c3, c4, c5, c6, c7, c8⟩ := E
  exact (fun z => absurd ((c4.symm.trans (congrArg c z)).trans c5) (by decide))
theorem rx.rD {h : fx_H} {m pb pf pz pt pp ph pk pc len nfo fl it : Nat} {fb ff fz ft fp fh fk fc : Nat → Int32} {th bs : Int32} {wi : Int64} (E : rx h m pb pf pz pt pp ph pk pc fb ff fz ft fp fh fk fc th len nfo fl bs it wi) {ba lim : Nat} {b : Nat → Nat} (hb : bs = nI ba) (h4 : ba + lim ≤ 40000) (hf : ∀ i, i < lim → fb (ba + i) = nI (b i)) : rd h m b lim := by
  obtain ⟨e0, ⟨e1, e2, e3, e4, e5, e6, e7, e8⟩, c, c1, c2, c3, c4, c5, c6, c7, c8⟩ := E
  exact ⟨_, pb, ba, fb, e0, rfl, by rw [hb]; rfl, e1, h4, hf⟩
theorem rx.rG {h : fx_H} {m pb pf pz pt pp ph pk pc len nfo fl it : Nat} {fb ff fz ft fp fh fk fc : Nat → Int32} {th bs : Int32} {wi : Int64} (E : rx h m pb pf pz pt pp ph pk pc fb ff fz ft fp fh fk fc th len nfo fl bs it wi) {ba : Nat} {b : Nat → Nat} (hb : bs = nI ba) (h4 : ba + len ≤ 40000) (hf : ∀ i, i < len → fb (ba + i) = nI (b i)) : rg h m b len := by
  obtain ⟨e0, ⟨e1, e2, e3, e4, e5, e6, e7, e8⟩, c, c1, c2, c3, c4, c5, c6, c7, c8⟩ := E
  exact ⟨_, pb, ba, fb, e0, rfl, by rw [hb]; rfl, e1, h4, hf, rfl⟩
/-- behind a change of the three tables alone -/
theorem rx.tab {h h' : fx_H} {m pb pf pz pt pp ph pk pc len nfo fl it : Nat} {fb ff fz ft fp fh fk fc : Nat → Int32} {th bs : Int32} {wi : Int64} {ft' fp' fh' : Nat → Int32} (E : rx h m pb pf pz pt pp ph pk pc fb ff fz ft fp fh fk fc th len nfo fl bs it wi) (k : kp (rS pt pp ph) h h') (A : ra h' m pt pp ph ft' fp' fh') : rx h' m pb pf pz pt pp ph pk pc fb ff fz ft' fp' fh' fk fc th len nfo fl bs it wi := by
  obtain ⟨e0, ⟨e1, e2, e3, e4, e5, e6, e7, e8⟩, c, c1, c2, c3, c4, c5, c6, c7, c8⟩ := E
  obtain ⟨F, a0, a8, a9, a10, a1, a2, a3⟩ := A
  have hm : h' m = h m := k m (by rw [e0]; exact fun z => by cases z) (fun z => by rcases z with z | z | z; exact ne_oa e0 e4 z; exact ne_oa e0 e5 z; exact ne_oa e0 e6 z)
  have hk : ∀ x, h x ≠ none → c x ≠ 4 → c x ≠ 5 → c x ≠ 6 → h' x = h x := fun x hx h4 h5 h6 => k x hx (fun z => by rcases z with z | z | z; exact h4 (by rw [z]; exact c4); exact h5 (by rw [z]; exact c5); exact h6 (by rw [z]; exact c6))
  refine ⟨hm.trans e0, ⟨?_, ?_, ?_, a1, a2, a3, ?_, ?_⟩, c, c1, c2, c3, c4, c5, c6, c7, c8⟩
  · rw [hk pb (by rw [e1]; exact fun z => by cases z) (by omega) (by omega) (by omega)]; exact e1
  · rw [hk pf (by rw [e2]; exact fun z => by cases z) (by omega) (by omega) (by omega)]; exact e2
  · rw [hk pz (by rw [e3]; exact fun z => by cases z) (by omega) (by omega) (by omega)]; exact e3
  · rw [hk pk (by rw [e7]; exact fun z => by cases z) (by omega) (by omega) (by omega)]; exact e7
  · rw [hk pc (by rw [e8]; exact fun z => by cases z) (by omega) (by omega) (by omega)]; exact e8
theorem kp.rSS {h h' : fx_H} {m pb pf pz pt pp ph pk pc : Nat} (k : kp (rS pt pp ph) h h') : kp (rC m pb pf pz pt pp ph pk pc) h h' := k.sub (fun x _ z => by rcases z with z | z | z <;> simp [rC, z])
theorem c_rf_init {g : fx_G} {h : fx_H} {e : Nat} (ha : h e = some (.inr (5, [.int 0, .null, .int 0, .int 0, .null, .null, .int 0, .int 0, .null, .null, .null, .int 0, .null, .null, .long 0]))) : fx_Met g mX6_init 1 30 [.ref e] h 8 173910 (fun r h' => r = none ∧ ∃ pb pf pz pt pp ph pk pc, rx h' e pb pf pz pt pp ph pk pc (fun _ => 0) (fun _ => 0) (fun _ => 0) (fun _ => 0) (fun _ => 0) (fun _ => 0) (fun _ => 0) (fun _ => 0) 0 0 0 0 (nI 0) 0 0 ∧ (h pb = none ∧ h pf = none ∧ h pz = none ∧ h pt = none ∧ h pp = none ∧ h ph = none ∧ h pk = none ∧ h pc = none) ∧ kp (fun x => x = e) h h') := by
  refine fx_Met.of rfl (Nat.le_of_ble_eq_true rfl) ?_
  refine fx_aloadn dX6_init_0 rfl ?_
  refine fx_objInit dX6_init_1 ooX6 oo_i oo_c (by decide) (by decide) (Nat.le_of_ble_eq_true rfl) ?_
  refine fx_aloadn dX6_init_4 rfl ?_
  refine fx_ldc dX6_init_5 qqX6_7 ?_
  refine fx_newIV 0 40000 (by decide) rfl dX6_init_7 ac_int (by decide) (by decide) (by decide) (by omega) (by omega) (fun pb g1 hq1 e1 o1 => ?_)
  have ea1 := (o1 e (ne_new ha hq1)).trans ha
  have np_pb : h pb = none := hq1
  have k1 : kp (fun x => x = e) h g1 := kp.put ((kp.rf (S := fun x => x = e))) o1 (Or.inr np_pb)
  have n_pb : pb ≠ e := Ne.symm (ne_oa ea1 e1)
  refine fx_putFV dX6_init_9 ffX6_8 rfl rfl ea1 rfl rfl (Nat.le_of_ble_eq_true rfl) (fun g2 e2 o2 => ?_)
  have f_pb_2 := (o2 pb n_pb).trans e1
  have k2 : kp (fun x => x = e) h g2 := kp.put (k1) o2 (Or.inl rfl)
  refine fx_aloadn dX6_init_12 rfl ?_
  refine fx_bipush (nI 33) dX6_init_13 (by decide) ?_
  refine fx_newIV 0 33 (by decide) rfl dX6_init_15 ac_int (by decide) (by decide) (by decide) (by omega) (by omega) (fun pf g3 hq3 e3 o3 => ?_)
  have ea3 := (o3 e (ne_new e2 hq3)).trans e2
  have f_pb_3 := (o3 pb (ne_new f_pb_2 hq3)).trans f_pb_2
  have np_pf : h pf = none := fresh_of k2 hq3 (fun z => by subst z; rw [e2] at hq3; cases hq3)
  have ne_pb_pf : pb ≠ pf := ne_new f_pb_2 hq3
  have k3 : kp (fun x => x = e) h g3 := kp.put (k2) o3 (Or.inr np_pf)
  have n_pf : pf ≠ e := Ne.symm (ne_oa ea3 e3)
  refine fx_putFV dX6_init_17 ffX6_14 rfl rfl ea3 rfl rfl (Nat.le_of_ble_eq_true rfl) (fun g4 e4 o4 => ?_)
  have f_pb_4 := (o4 pb n_pb).trans f_pb_3
  have f_pf_4 := (o4 pf n_pf).trans e3
  have k4 : kp (fun x => x = e) h g4 := kp.put (k3) o4 (Or.inl rfl)
  refine fx_aloadn dX6_init_20 rfl ?_
  refine fx_bipush (nI 32) dX6_init_21 (by decide) ?_
  refine fx_newIV 0 32 (by decide) rfl dX6_init_23 ac_int (by decide) (by decide) (by decide) (by omega) (by omega) (fun pz g5 hq5 e5 o5 => ?_)
  have ea5 := (o5 e (ne_new e4 hq5)).trans e4
  have f_pb_5 := (o5 pb (ne_new f_pb_4 hq5)).trans f_pb_4
  have f_pf_5 := (o5 pf (ne_new f_pf_4 hq5)).trans f_pf_4
  have np_pz : h pz = none := fresh_of k4 hq5 (fun z => by subst z; rw [e4] at hq5; cases hq5)
  have ne_pb_pz : pb ≠ pz := ne_new f_pb_4 hq5
  have ne_pf_pz : pf ≠ pz := ne_new f_pf_4 hq5
  have k5 : kp (fun x => x = e) h g5 := kp.put (k4) o5 (Or.inr np_pz)
  have n_pz : pz ≠ e := Ne.symm (ne_oa ea5 e5)
  refine fx_putFV dX6_init_25 ffX6_17 rfl rfl ea5 rfl rfl (Nat.le_of_ble_eq_true rfl) (fun g6 e6 o6 => ?_)
  have f_pb_6 := (o6 pb n_pb).trans f_pb_5
  have f_pf_6 := (o6 pf n_pf).trans f_pf_5
  have f_pz_6 := (o6 pz n_pz).trans e5
  have k6 : kp (fun x => x = e) h g6 := kp.put (k5) o6 (Or.inl rfl)
  refine fx_aloadn dX6_init_28 rfl ?_
  refine fx_ldc dX6_init_29 qqX6_20 ?_
  refine fx_newIV 0 65792 (by decide) rfl dX6_init_31 ac_int (by decide) (by decide) (by decide) (by omega) (by omega) (fun pt g7 hq7 e7 o7 => ?_)
  have ea7 := (o7 e (ne_new e6 hq7)).trans e6
  have f_pb_7 := (o7 pb (ne_new f_pb_6 hq7)).trans f_pb_6
  have f_pf_7 := (o7 pf (ne_new f_pf_6 hq7)).trans f_pf_6
  have f_pz_7 := (o7 pz (ne_new f_pz_6 hq7)).trans f_pz_6
  have np_pt : h pt = none := fresh_of k6 hq7 (fun z => by subst z; rw [e6] at hq7; cases hq7)
  have ne_pb_pt : pb ≠ pt := ne_new f_pb_6 hq7
  have ne_pf_pt : pf ≠ pt := ne_new f_pf_6 hq7
  have ne_pz_pt : pz ≠ pt := ne_new f_pz_6 hq7
  have k7 : kp (fun x => x = e) h g7 := kp.put (k6) o7 (Or.inr np_pt)
  have n_pt : pt ≠ e := Ne.symm (ne_oa ea7 e7)
  refine fx_putFV dX6_init_33 ffX6_21 rfl rfl ea7 rfl rfl (Nat.le_of_ble_eq_true rfl) (fun g8 e8 o8 => ?_)
  have f_pb_8 := (o8 pb n_pb).trans f_pb_7
  have f_pf_8 := (o8 pf n_pf).trans f_pf_7
  have f_pz_8 := (o8 pz n_pz).trans f_pz_7
  have f_pt_8 := (o8 pt n_pt).trans e7
  have k8 : kp (fun x => x = e) h g8 := kp.put (k7) o8 (Or.inl rfl)
  refine fx_aloadn dX6_init_36 rfl ?_
  refine fx_ldc dX6_init_37 qqX6_20 ?_
  refine fx_newIV 0 65792 (by decide) rfl dX6_init_39 ac_int (by decide) (by decide) (by decide) (by omega) (by omega) (fun pp g9 hq9 e9 o9 => ?_)
  have ea9 := (o9 e (ne_new e8 hq9)).trans e8
  have f_pb_9 := (o9 pb (ne_new f_pb_8 hq9)).trans f_pb_8
  have f_pf_9 := (o9 pf (ne_new f_pf_8 hq9)).trans f_pf_8
  have f_pz_9 := (o9 pz (ne_new f_pz_8 hq9)).trans f_pz_8
  have f_pt_9 := (o9 pt (ne_new f_pt_8 hq9)).trans f_pt_8
  have np_pp : h pp = none := fresh_of k8 hq9 (fun z => by subst z; rw [e8] at hq9; cases hq9)
  have ne_pb_pp : pb ≠ pp := ne_new f_pb_8 hq9
  have ne_pf_pp : pf ≠ pp := ne_new f_pf_8 hq9
  have ne_pz_pp : pz ≠ pp := ne_new f_pz_8 hq9
  have ne_pt_pp : pt ≠ pp := ne_new f_pt_8 hq9
  have k9 : kp (fun x => x = e) h g9 := kp.put (k8) o9 (Or.inr np_pp)
  have n_pp : pp ≠ e := Ne.symm (ne_oa ea9 e9)
  refine fx_putFV dX6_init_41 ffX6_24 rfl rfl ea9 rfl rfl (Nat.le_of_ble_eq_true rfl) (fun g10 e10 o10 => ?_)
  have f_pb_10 := (o10 pb n_pb).trans f_pb_9
  have f_pf_10 := (o10 pf n_pf).trans f_pf_9
  have f_pz_10 := (o10 pz n_pz).trans f_pz_9
  have f_pt_10 := (o10 pt n_pt).trans f_pt_9
  have f_pp_10 := (o10 pp n_pp).trans e9
  have k10 : kp (fun x => x = e) h g10 := kp.put (k9) o10 (Or.inl rfl)
  refine fx_aloadn dX6_init_44 rfl ?_
  refine fx_sipush (nI 257) dX6_init_45 (by decide) ?_
  refine fx_newIV 2 257 (by decide) rfl dX6_init_48 ac_boolean (by decide) (by decide) (by decide) (by omega) (by omega) (fun ph g11 hq11 e11 o11 => ?_)
  have ea11 := (o11 e (ne_new e10 hq11)).trans e10
  have f_pb_11 := (o11 pb (ne_new f_pb_10 hq11)).trans f_pb_10
  have f_pf_11 := (o11 pf (ne_new f_pf_10 hq11)).trans f_pf_10
  have f_pz_11 := (o11 pz (ne_new f_pz_10 hq11)).trans f_pz_10
  have f_pt_11 := (o11 pt (ne_new f_pt_10 hq11)).trans f_pt_10
  have f_pp_11 := (o11 pp (ne_new f_pp_10 hq11)).trans f_pp_10
  have np_ph : h ph = none := fresh_of k10 hq11 (fun z => by subst z; rw [e10] at hq11; cases hq11)
  have ne_pb_ph : pb ≠ ph := ne_new f_pb_10 hq11
  have ne_pf_ph : pf ≠ ph := ne_new f_pf_10 hq11
  have ne_pz_ph : pz ≠ ph := ne_new f_pz_10 hq11
  have ne_pt_ph : pt ≠ ph := ne_new f_pt_10 hq11
  have ne_pp_ph : pp ≠ ph := ne_new f_pp_10 hq11
  have k11 : kp (fun x => x = e) h g11 := kp.put (k10) o11 (Or.inr np_ph)
  have n_ph : ph ≠ e := Ne.symm (ne_oa ea11 e11)
  refine fx_putFV dX6_init_50 ffX6_27 rfl rfl ea11 rfl rfl (Nat.le_of_ble_eq_true rfl) (fun g12 e12 o12 => ?_)
  have f_pb_12 := (o12 pb n_pb).trans f_pb_11
  have f_pf_12 := (o12 pf n_pf).trans f_pf_11
  have f_pz_12 := (o12 pz n_pz).trans f_pz_11
  have f_pt_12 := (o12 pt n_pt).trans f_pt_11
  have f_pp_12 := (o12 pp n_pp).trans f_pp_11
  have f_ph_12 := (o12 ph n_ph).trans e11
  have k12 : kp (fun x => x = e) h g12 := kp.put (k11) o12 (Or.inl rfl)
  refine fx_aloadn dX6_init_53 rfl ?_
  refine fx_sipush (nI 1002) dX6_init_54 (by decide) ?_
  refine fx_newIV 0 1002 (by decide) rfl dX6_init_57 ac_int (by decide) (by decide) (by decide) (by omega) (by omega) (fun pk g13 hq13 e13 o13 => ?_)
  have ea13 := (o13 e (ne_new e12 hq13)).trans e12
  have f_pb_13 := (o13 pb (ne_new f_pb_12 hq13)).trans f_pb_12
  have f_pf_13 := (o13 pf (ne_new f_pf_12 hq13)).trans f_pf_12
  have f_pz_13 := (o13 pz (ne_new f_pz_12 hq13)).trans f_pz_12
  have f_pt_13 := (o13 pt (ne_new f_pt_12 hq13)).trans f_pt_12
  have f_pp_13 := (o13 pp (ne_new f_pp_12 hq13)).trans f_pp_12
  have f_ph_13 := (o13 ph (ne_new f_ph_12 hq13)).trans f_ph_12
  have np_pk : h pk = none := fresh_of k12 hq13 (fun z => by subst z; rw [e12] at hq13; cases hq13)
  have ne_pb_pk : pb ≠ pk := ne_new f_pb_12 hq13
  have ne_pf_pk : pf ≠ pk := ne_new f_pf_12 hq13
  have ne_pz_pk : pz ≠ pk := ne_new f_pz_12 hq13
  have ne_pt_pk : pt ≠ pk := ne_new f_pt_12 hq13
  have ne_pp_pk : pp ≠ pk := ne_new f_pp_12 hq13
  have ne_ph_pk : ph ≠ pk := ne_new f_ph_12 hq13
  have k13 : kp (fun x => x = e) h g13 := kp.put (k12) o13 (Or.inr np_pk)
  have n_pk : pk ≠ e := Ne.symm (ne_oa ea13 e13)
  refine fx_putFV dX6_init_59 ffX6_31 rfl rfl ea13 rfl rfl (Nat.le_of_ble_eq_true rfl) (fun g14 e14 o14 => ?_)
  have f_pb_14 := (o14 pb n_pb).trans f_pb_13
  have f_pf_14 := (o14 pf n_pf).trans f_pf_13
  have f_pz_14 := (o14 pz n_pz).trans f_pz_13
  have f_pt_14 := (o14 pt n_pt).trans f_pt_13
  have f_pp_14 := (o14 pp n_pp).trans f_pp_13
  have f_ph_14 := (o14 ph n_ph).trans f_ph_13
  have f_pk_14 := (o14 pk n_pk).trans e13
  have k14 : kp (fun x => x = e) h g14 := kp.put (k13) o14 (Or.inl rfl)
  refine fx_aloadn dX6_init_62 rfl ?_
  refine fx_sipush (nI 1002) dX6_init_63 (by decide) ?_
  refine fx_newIV 0 1002 (by decide) rfl dX6_init_66 ac_int (by decide) (by decide) (by decide) (by omega) (by omega) (fun pc g15 hq15 e15 o15 => ?_)
  have ea15 := (o15 e (ne_new e14 hq15)).trans e14
  have f_pb_15 := (o15 pb (ne_new f_pb_14 hq15)).trans f_pb_14
  have f_pf_15 := (o15 pf (ne_new f_pf_14 hq15)).trans f_pf_14
  have f_pz_15 := (o15 pz (ne_new f_pz_14 hq15)).trans f_pz_14
  have f_pt_15 := (o15 pt (ne_new f_pt_14 hq15)).trans f_pt_14
  have f_pp_15 := (o15 pp (ne_new f_pp_14 hq15)).trans f_pp_14
  have f_ph_15 := (o15 ph (ne_new f_ph_14 hq15)).trans f_ph_14
  have f_pk_15 := (o15 pk (ne_new f_pk_14 hq15)).trans f_pk_14
  have np_pc : h pc = none := fresh_of k14 hq15 (fun z => by subst z; rw [e14] at hq15; cases hq15)
  have ne_pb_pc : pb ≠ pc := ne_new f_pb_14 hq15
  have ne_pf_pc : pf ≠ pc := ne_new f_pf_14 hq15
  have ne_pz_pc : pz ≠ pc := ne_new f_pz_14 hq15
  have ne_pt_pc : pt ≠ pc := ne_new f_pt_14 hq15
  have ne_pp_pc : pp ≠ pc := ne_new f_pp_14 hq15
  have ne_ph_pc : ph ≠ pc := ne_new f_ph_14 hq15
  have ne_pk_pc : pk ≠ pc := ne_new f_pk_14 hq15
  have k15 : kp (fun x => x = e) h g15 := kp.put (k14) o15 (Or.inr np_pc)
  have n_pc : pc ≠ e := Ne.symm (ne_oa ea15 e15)
  refine fx_putFV dX6_init_68 ffX6_34 rfl rfl ea15 rfl rfl (Nat.le_of_ble_eq_true rfl) (fun g16 e16 o16 => ?_)
  have f_pb_16 := (o16 pb n_pb).trans f_pb_15
  have f_pf_16 := (o16 pf n_pf).trans f_pf_15
  have f_pz_16 := (o16 pz n_pz).trans f_pz_15
  have f_pt_16 := (o16 pt n_pt).trans f_pt_15
  have f_pp_16 := (o16 pp n_pp).trans f_pp_15
  have f_ph_16 := (o16 ph n_ph).trans f_ph_15
  have f_pk_16 := (o16 pk n_pk).trans f_pk_15
  have f_pc_16 := (o16 pc n_pc).trans e15
  have k16 : kp (fun x => x = e) h g16 := kp.put (k15) o16 (Or.inl rfl)
  refine fx_vret dX6_init_71 rfl ?_
  exact ⟨rfl, pb, pf, pz, pt, pp, ph, pk, pc, ⟨e16, ⟨f_pb_16, f_pf_16, f_pz_16, f_pt_16, f_pp_16, f_ph_16, f_pk_16, f_pc_16⟩, fun x => if x = pb then 1 else if x = pf then 2 else if x = pz then 3 else if x = pt then 4 else if x = pp then 5 else if x = ph then 6 else if x = pk then 7 else 8, (by show (if pb = pb then 1 else if pb = pf then 2 else if pb = pz then 3 else if pb = pt then 4 else if pb = pp then 5 else if pb = ph then 6 else if pb = pk then 7 else 8) = 1; rw [if_pos rfl]), (by show (if pf = pb then 1 else if pf = pf then 2 else if pf = pz then 3 else if pf = pt then 4 else if pf = pp then 5 else if pf = ph then 6 else if pf = pk then 7 else 8) = 2; rw [if_neg (Ne.symm ne_pb_pf), if_pos rfl]), (by show (if pz = pb then 1 else if pz = pf then 2 else if pz = pz then 3 else if pz = pt then 4 else if pz = pp then 5 else if pz = ph then 6 else if pz = pk then 7 else 8) = 3; rw [if_neg (Ne.symm ne_pb_pz), if_neg (Ne.symm ne_pf_pz), if_pos rfl]), (by show (if pt = pb then 1 else if pt = pf then 2 else if pt = pz then 3 else if pt = pt then 4 else if pt = pp then 5 else if pt = ph then 6 else if pt = pk then 7 else 8) = 4; rw [if_neg (Ne.symm ne_pb_pt), if_neg (Ne.symm ne_pf_pt), if_neg (Ne.symm ne_pz_pt), if_pos rfl]), (by show (if pp = pb then 1 else if pp = pf then 2 else if pp = pz then 3 else if pp = pt then 4 else if pp = pp then 5 else if pp = ph then 6 else if pp = pk then 7 else 8) = 5; rw [if_neg (Ne.symm ne_pb_pp), if_neg (Ne.symm ne_pf_pp), if_neg (Ne.symm ne_pz_pp), if_neg (Ne.symm ne_pt_pp), if_pos rfl]), (by show (if ph = pb then 1 else if ph = pf then 2 else if ph = pz then 3 else if ph = pt then 4 else if ph = pp then 5 else if ph = ph then 6 else if ph = pk then 7 else 8) = 6; rw [if_neg (Ne.symm ne_pb_ph), if_neg (Ne.symm ne_pf_ph), if_neg (Ne.symm ne_pz_ph), if_neg (Ne.symm ne_pt_ph), if_neg (Ne.symm ne_pp_ph), if_pos rfl]), (by show (if pk = pb then 1 else if pk = pf then 2 else if pk = pz then 3 else if pk = pt then 4 else if pk = pp then 5 else if pk = ph then 6 else if pk = pk then 7 else 8) = 7; rw [if_neg (Ne.symm ne_pb_pk), if_neg (Ne.symm ne_pf_pk), if_neg (Ne.symm ne_pz_pk), if_neg (Ne.symm ne_pt_pk), if_neg (Ne.symm ne_pp_pk), if_neg (Ne.symm ne_ph_pk), if_pos rfl]), (by show (if pc = pb then 1 else if pc = pf then 2 else if pc = pz then 3 else if pc = pt then 4 else if pc = pp then 5 else if pc = ph then 6 else if pc = pk then 7 else 8) = 8; rw [if_neg (Ne.symm ne_pb_pc), if_neg (Ne.symm ne_pf_pc), if_neg (Ne.symm ne_pz_pc), if_neg (Ne.symm ne_pt_pc), if_neg (Ne.symm ne_pp_pc), if_neg (Ne.symm ne_ph_pc), if_neg (Ne.symm ne_pk_pc)])⟩, ⟨np_pb, np_pf, np_pz, np_pt, np_pp, np_ph, np_pk, np_pc⟩, k16⟩
