/-! ===== copying: what a call says of the second program, and the machine's cases ===== -/
def ML (lf : Nat) (z : aS) (F : Nat → Nat → Int32) : Prop := ∀ i, i < 300 → (memo z i = 0 → ∃ j, j < lf ∧ F 36 i = nI j) ∧ (memo z i ≠ 0 → F 36 i = nI lf ∧ F 37 i = nI (memo z i - 1) ∧ memo z i ≤ nT z)
def M0 (lf : Nat) (F : Nat → Nat → Int32) : Prop := ∀ i, i < 300 → ∃ j, j ≤ lf ∧ F 36 i = nI j
def MN (an : Nat) (z : aS) (F : Nat → Nat → Int32) : Prop := ∀ v, v < 150 → (memo z (2 * v) = 0 → ∃ j, j < an ∧ F 40 v = nI j) ∧ (memo z (2 * v) ≠ 0 → F 40 v = nI an ∧ F 41 v = nI (memo z (2 * v) - 1) ∧ memo z (2 * v) ≤ nT z)
def N0 (an : Nat) (F : Nat → Nat → Int32) : Prop := ∀ v, v < 150 → ∃ j, j ≤ an ∧ F 40 v = nI j
theorem ML.m0 {lf : Nat} {z : aS} {F : Nat → Nat → Int32} (h : ML lf z F) : M0 lf F := fun i hi => by
  by_cases e : memo z i = 0
  · obtain ⟨j, hj, h1⟩ := (h i hi).1 e
    exact ⟨j, by omega, h1⟩
  · exact ⟨lf, Nat.le_refl _, ((h i hi).2 e).1⟩
theorem MN.n0 {an : Nat} {z : aS} {F : Nat → Nat → Int32} (h : MN an z F) : N0 an F := fun i hi => by
  by_cases e : memo z (2 * i) = 0
  · obtain ⟨j, hj, h1⟩ := (h i hi).1 e
    exact ⟨j, by omega, h1⟩
  · exact ⟨an, Nat.le_refl _, ((h i hi).2 e).1⟩
theorem M0.ml {lf : Nat} {z : aS} {F : Nat → Nat → Int32} (h : M0 lf F) : ML (lf + 1) (newTime z) F := fun i hi => ⟨fun _ => by
  obtain ⟨j, hj, h1⟩ := h i hi
  exact ⟨j, by omega, h1⟩, fun e => absurd (show memo (newTime z) i = 0 from rfl) e⟩
theorem N0.mn {an : Nat} {z : aS} {F : Nat → Nat → Int32} (h : N0 an F) : MN (an + 1) (newTime z) F := fun i hi => ⟨fun _ => by
  obtain ⟨j, hj, h1⟩ := h i hi
  exact ⟨j, by omega, h1⟩, fun e => absurd (show memo (newTime z) (2 * i) = 0 from rfl) e⟩
theorem ML.to {lf : Nat} {z z' : aS} {F F' : Nat → Nat → Int32} (h : ML lf z F) (e : ∀ i, memo z' i = memo z i) (hn : nT z ≤ nT z') (f1 : F' 36 = F 36) (f2 : F' 37 = F 37) : ML lf z' F' := fun i hi => by
  rw [e, f1, f2]
  obtain ⟨h1, h2⟩ := h i hi
  exact ⟨h1, fun h => ⟨(h2 h).1, (h2 h).2.1, by have := (h2 h).2.2; omega⟩⟩
theorem MN.to {lf : Nat} {z z' : aS} {F F' : Nat → Nat → Int32} (h : MN lf z F) (e : ∀ i, memo z' i = memo z i) (hn : nT z ≤ nT z') (f1 : F' 40 = F 40) (f2 : F' 41 = F 41) : MN lf z' F' := fun i hi => by
  rw [e, f1, f2]
  obtain ⟨h1, h2⟩ := h i hi
  exact ⟨h1, fun h => ⟨(h2 h).1, (h2 h).2.1, by have := (h2 h).2.2; omega⟩⟩
theorem Px.rf {s : aS} {ix : Nat → Nat → Nat} : Px s ix ix := fun _ _ _ _ _ _ => rfl
theorem Px.tr {s s1 : aS} {ix ix1 ix2 : Nat → Nat → Nat} {o : Nat → Int32} {F : Nat → Nat → Int32} (hR : MR s ix o F) (h : Px s ix ix1) (hL : Lx s s1) (h' : Px s1 ix1 ix2) : Px s ix ix2 := by
  intro v hv sd hsd i hi
  obtain ⟨-, a2, -, a4, a5, -⟩ := hL
  have ht := (hR.2.2.2.2.2.1.2 v hv).2.1
  obtain ⟨l, hl⟩ := a5 sd hsd _ ht
  rw [h' v (by omega) sd hsd i (by rw [a4 v hv, hl, List.length_append]; omega)]
  exact h v hv sd hsd i hi
def HM (z' : aS) (hm k : Nat) (o : Nat → Int32) (F : Nat → Nat → Int32) (u : mS) : Prop := (sto z' = 0 → u.1 39 = o 39) ∧ (∃ h', u.1 39 = nI h' ∧ hm ≤ h' ∧ h' ≤ hm + 6 * k) ∧ ∀ j, j < hm → u.2 38 j = F 38 j
def LQ (LL : List Nat) (QM : aS → (Nat → Nat → Int32) → Prop) (z : aS) (ix : Nat → Nat → Nat) (hm k : Nat) (o : Nat → Int32) (F : Nat → Nat → Int32) (r' : aS × Nat) (r : Int32) (u : mS) : Prop :=
  (∃ ix', MR r'.1 ix' u.1 u.2 ∧ Px z ix ix') ∧ QM r'.1 u.2 ∧ (sto r'.1 = 0 → r = nI r'.2 ∧ r'.2 < nT r'.1) ∧ (sto z ≠ 0 → u = (o, F)) ∧ HM r'.1 hm k o F u ∧ Kq LL o F u
theorem HM.rf {z : aS} {hm k : Nat} {o : Nat → Int32} {F : Nat → Nat → Int32} (h : o 39 = nI hm) : HM z hm k o F (o, F) := ⟨fun _ => rfl, ⟨hm, h, Nat.le_refl _, by omega⟩, fun _ _ => rfl⟩
/-- nothing of this call's own numbers was written -/
theorem HM.own {z : aS} {hm k : Nat} {o o1 : Nat → Int32} {F F1 : Nat → Nat → Int32} (h : o 39 = nI hm) (e1 : o1 39 = o 39) (e2 : F1 38 = F 38) : HM z hm k o F (o1, F1) := ⟨fun _ => e1, ⟨hm, e1.trans h, Nat.le_refl _, by omega⟩, fun j _ => by show F1 38 j = _; rw [e2]⟩
theorem HM.mono {z z2 : aS} {hm k k2 : Nat} {o : Nat → Int32} {F : Nat → Nat → Int32} {u : mS} (h : HM z hm k o F u) (hk : k ≤ k2) (hz : sto z2 = 0 → sto z = 0) : HM z2 hm k2 o F u := by
  obtain ⟨h1, ⟨h', g1, g2, g3⟩, h3⟩ := h
  exact ⟨fun h => h1 (hz h), ⟨h', g1, g2, by omega⟩, h3⟩
/-- one call behind another; the second does nothing if the first stopped -/
theorem HM.tr {z1 z2 : aS} {hm h1 k : Nat} {o o1 : Nat → Int32} {F F1 : Nat → Nat → Int32} {u : mS} (h : HM z1 hm k o F (o1, F1)) (ho : o 39 = nI hm) (hh1 : sto z1 = 0 → h1 = hm) (h' : HM z2 h1 k o1 F1 u) (hs : sto z1 ≠ 0 → u = (o1, F1)) (hz : sto z2 = 0 → sto z1 = 0) : HM z2 hm k o F u := by
  by_cases e : sto z1 = 0
  · obtain ⟨a1, ⟨x, b1, b2, b3⟩, c1⟩ := h
    obtain ⟨a2, ⟨y, d1, d2, d3⟩, c2⟩ := h'
    have := hh1 e
    subst this
    exact ⟨fun hz => (a2 hz).trans (a1 e), ⟨y, d1, d2, d3⟩, fun j hj => (c2 j hj).trans (c1 j hj)⟩
  · rw [hs e]
    exact h.mono (Nat.le_refl _) hz
/-- the number of what is held, wherever a call left it -/
theorem HM.at {z1 : aS} {hm k : Nat} {o o1 : Nat → Int32} {F F1 : Nat → Nat → Int32} (h : HM z1 hm k o F (o1, F1)) (ho : o 39 = nI hm) (hb : hm + 6 * k < 2 ^ 31) : ∃ h1, o1 39 = nI h1 ∧ (sto z1 = 0 → h1 = hm) ∧ h1 ≤ hm + 6 * k := by
  obtain ⟨a1, ⟨x, b1, b2, b3⟩, c1⟩ := h
  refine ⟨x, b1, fun e => ?_, b3⟩
  have := a1 e
  rw [ho] at this
  exact (nI_eq (by omega) (by omega)).mp (b1.symm.trans this)
/-- a list's types one after another: what is done, and what is left -/
def Cl (f : aS → Nat → aS × Nat) (z : aS) (ps : List Nat) (zi : aS) (acc : List Nat) (i : Nat) : Prop := (cpL f z ps).1 = (cpL f zi (ps.drop i)).1 ∧ (cpL f z ps).2 = acc ++ (cpL f zi (ps.drop i)).2 ∧ acc.length = i
theorem Cl.start {f : aS → Nat → aS × Nat} {z : aS} {ps : List Nat} : Cl f z ps z [] 0 := ⟨rfl, rfl, rfl⟩
theorem drop_cons {l : List Nat} {i : Nat} (h : i < l.length) : l.drop i = l.getD i 0 :: l.drop (i + 1) := by
  rw [gtD h]
  exact List.drop_eq_getElem_cons h
theorem Cl.step {f : aS → Nat → aS × Nat} {z zi : aS} {ps acc : List Nat} {i : Nat} (h : Cl f z ps zi acc i) (hi : i < ps.length) (h0 : sto zi = 0) : Cl f z ps (f zi (ps.getD i 0)).1 (acc ++ [(f zi (ps.getD i 0)).2]) (i + 1) := by
  obtain ⟨h1, h2, h3⟩ := h
  rw [drop_cons hi] at h1 h2
  have e : cpL f zi (ps.getD i 0 :: ps.drop (i + 1)) = ((cpL f (f zi (ps.getD i 0)).1 (ps.drop (i + 1))).1, (f zi (ps.getD i 0)).2 :: (cpL f (f zi (ps.getD i 0)).1 (ps.drop (i + 1))).2) := by
    rw [cpL, if_neg (not_not_intro h0)]
  rw [e] at h1 h2
  exact ⟨h1, by rw [h2, List.append_assoc]; rfl, by simp [h3]⟩
theorem Cl.done {f : aS → Nat → aS × Nat} {z zi : aS} {ps acc : List Nat} {i : Nat} (h : Cl f z ps zi acc i) (hi : ps.length ≤ i) : (cpL f z ps).1 = zi ∧ (cpL f z ps).2 = acc := by
  obtain ⟨h1, h2, -⟩ := h
  rw [List.drop_eq_nil_of_le hi] at h1 h2
  exact ⟨h1, by rw [h2]; exact List.append_nil _⟩
theorem Cl.stop {f : aS → Nat → aS × Nat} {z zi : aS} {ps acc : List Nat} {i : Nat} (h : Cl f z ps zi acc i) (h0 : sto zi ≠ 0) : (cpL f z ps).1 = zi := by
  obtain ⟨h1, -⟩ := h
  rw [h1]
  cases ps.drop i with
  | nil => rfl
  | cons x xs => rw [cpL, if_pos h0]
/-! the cases of cp -/
theorem cp_le {k t way ab lv : Nat} {z : aS} (h0 : sto z = 0) (h : lev z t ≤ ab) : cp (k + 1) z t way ab lv = (z, t) := by
  rw [cp, if_neg (not_not_intro h0), if_pos h]
theorem cp_fn {k t way ab lv : Nat} {z : aS} (h0 : sto z = 0) (h : ¬ lev z t ≤ ab) (h1 : srt z t = 1) : cp (k + 1) z t way ab lv = mkA (cp k (cp k z (one z t) (otw way) ab lv).1 (two z t) way ab lv).1 (cp k z (one z t) (otw way) ab lv).2 (cp k (cp k z (one z t) (otw way) ab lv).1 (two z t) way ab lv).2 := by
  rw [cp, if_neg (not_not_intro h0), if_neg h, if_pos h1]
theorem cp_rc {k t way ab lv : Nat} {z : aS} (h0 : sto z = 0) (h : ¬ lev z t ≤ ab) (h1 : srt z t = 2) : cp (k + 1) z t way ab lv = mkR (cpL (fun s x => cp k s x way ab lv) z (parts z t)).1 (labs z t) (cpL (fun s x => cp k s x way ab lv) z (parts z t)).2 := by
  rw [cp, if_neg (not_not_intro h0), if_neg h, if_neg (by rw [h1]; decide), if_pos h1]
theorem cp_me {k t way ab lv : Nat} {z : aS} (h0 : sto z = 0) (h : ¬ lev z t ≤ ab) (h1 : srt z t = 3) (hm : memo z (mkey z t way) ≠ 0) : cp (k + 1) z t way ab lv = (z, memo z (mkey z t way) - 1) := by
  rw [cp, if_neg (not_not_intro h0), if_neg h, if_neg (by rw [h1]; decide), if_neg (by rw [h1]; decide), if_pos hm]
theorem cp_no {k t way ab lv : Nat} {z : aS} (h0 : sto z = 0) (h : ¬ lev z t ≤ ab) (h1 : srt z t = 3) (hm : memo z (mkey z t way) = 0) (hv : sto (mkV z lv).1 ≠ 0) : cp (k + 1) z t way ab lv = ((mkV z lv).1, 0) := by
  rw [cp, if_neg (not_not_intro h0), if_neg h, if_neg (by rw [h1]; decide), if_neg (by rw [h1]; decide), if_neg (not_not_intro hm), if_pos hv]
/-- the copy's first state: made, told in the memo, linked -/
def cpV (z : aS) (t way lv : Nat) : aS := link (w1 (newV z lv) 7 (mkey z t way) (nT z + 1)) t way (nT z)
theorem cp_v0 {k t ab lv : Nat} {z : aS} (h0 : sto z = 0) (h : ¬ lev z t ≤ ab) (h1 : srt z t = 3) (hm : memo z (mkey z t 0) = 0) (hv : mkV z lv = (newV z lv, nT z)) : cp (k + 1) z t 0 ab lv = (cpR (fun s x => cp k s x 0 ab lv) (nT z) 0 (cpV z t 0 lv) (row (cpV z t 0 lv) 0 t), nT z) := by
  have hs : sto (newV z lv) = 0 := h0
  rw [cp, if_neg (not_not_intro h0), if_neg h, if_neg (by rw [h1]; decide), if_neg (by rw [h1]; decide), if_neg (not_not_intro hm), hv, if_neg (not_not_intro hs)]
  rfl
theorem cp_v1 {k t ab lv : Nat} {z : aS} (h0 : sto z = 0) (h : ¬ lev z t ≤ ab) (h1 : srt z t = 3) (hm : memo z (mkey z t 1) = 0) (hv : mkV z lv = (newV z lv, nT z)) : cp (k + 1) z t 1 ab lv = (cpR (fun s x => cp k s x 1 ab lv) (nT z) 1 (cpV z t 1 lv) (row (cpV z t 1 lv) 1 t), nT z) := by
  have hs : sto (newV z lv) = 0 := h0
  rw [cp, if_neg (not_not_intro h0), if_neg h, if_neg (by rw [h1]; decide), if_neg (by rw [h1]; decide), if_neg (not_not_intro hm), hv, if_neg (not_not_intro hs)]
  rfl
theorem cp_v2 {k t ab lv : Nat} {z : aS} (h0 : sto z = 0) (h : ¬ lev z t ≤ ab) (h1 : srt z t = 3) (hm : memo z (mkey z t 2) = 0) (hv : mkV z lv = (newV z lv, nT z)) : cp (k + 1) z t 2 ab lv = (cpR (fun s x => cp k s x 2 ab lv) (nT z) 1 (cpR (fun s x => cp k s x 2 ab lv) (nT z) 0 (cpV z t 2 lv) (row (cpV z t 2 lv) 0 t)) (row (cpR (fun s x => cp k s x 2 ab lv) (nT z) 0 (cpV z t 2 lv) (row (cpV z t 2 lv) 0 t)) 1 t), nT z) := by
  have hs : sto (newV z lv) = 0 := h0
  rw [cp, if_neg (not_not_intro h0), if_neg h, if_neg (by rw [h1]; decide), if_neg (by rw [h1]; decide), if_neg (not_not_intro hm), hv, if_neg (not_not_intro hs)]
  rfl
theorem cpR_step {f : aS → Nat → aS × Nat} {n sd i : Nat} {z : aS} {L : List Nat} (hi : i < L.length) (h0 : sto z = 0) : cpR f n sd z (L.drop i) = cpR f n sd (if sto (f z (L.getD i 0)).1 = 0 then bind (f z (L.getD i 0)).1 n sd (f z (L.getD i 0)).2 else (f z (L.getD i 0)).1) (L.drop (i + 1)) := by
  rw [drop_cons hi, cpR, if_neg (not_not_intro h0)]
theorem upd_c {f : Nat → Int32} {a b : Nat} {x y : Int32} (h : a ≠ b) : upd (upd f a x) b y = upd (upd f b y) a x := by
  funext j
  unfold upd
  by_cases e1 : j = a
  · rw [if_pos e1, if_neg (by omega), if_pos e1]
  · rw [if_neg e1]
    by_cases e2 : j = b
    · rw [if_pos e2, if_neg e1]
    · rw [if_neg e2, if_neg e1]
