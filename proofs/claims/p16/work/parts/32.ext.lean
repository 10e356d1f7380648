/-! ===== what goes on stays as it was ===== -/
/-- everything that there is stays; rows may get longer -/
def Ex (s : aS) (y : aG) (s' : aS) (y' : aG) : Prop :=
  (nT s ≤ nT s' ∧ nV s ≤ nV s' ∧ sZ y ≤ sZ y' ∧ (∀ x, it y x = 1 → it y' x = 1) ∧ ∀ x, x ∈ apl y → x ∈ apl y' ∨ it y' x = 1) ∧
  (∀ x, x < nT s → srt s' x = srt s x ∧ lev s' x = lev s x ∧ one s' x = one s x ∧ two s' x = two s x ∧ parts s' x = parts s x ∧ labs s' x = labs s x) ∧
  (∀ v, v < nV s → s'.1 6 v = s.1 6 v) ∧
  (∀ x, x < nT s → zn y' x = zn y x ∧ nv y' x = nv y x ∧ ar y' x = ar y x ∧ rm y' x = rm y x ∧ ps y' x = ps y x ∧ ng y' x = ng y x ∧ (it y x = 1 → it y' x = 1)) ∧
  (∀ z, z < sZ y → pth y' z = pth y z) ∧ (∀ z, ih y z = 1 → ih y' z = 1)
theorem Ex.rf {s : aS} {y : aG} : Ex s y s y := ⟨⟨Nat.le_refl _, Nat.le_refl _, Nat.le_refl _, fun _ h => h, fun _ h => Or.inl h⟩, fun _ _ => ⟨rfl, rfl, rfl, rfl, rfl, rfl⟩, fun _ _ => rfl, fun _ _ => ⟨rfl, rfl, rfl, rfl, rfl, rfl, id⟩, fun _ _ => rfl, fun _ h => h⟩
theorem Ex.tr {s s1 s2 : aS} {y y1 y2 : aG} (h : Ex s y s1 y1) (h' : Ex s1 y1 s2 y2) : Ex s y s2 y2 := by
  obtain ⟨⟨a1, a2, a3, a4, a5⟩, b, c, d, e, f⟩ := h
  obtain ⟨⟨a1', a2', a3', a4', a5'⟩, b', c', d', e', f'⟩ := h'
  refine ⟨⟨by omega, by omega, by omega, fun x hx => a4' x (a4 x hx), fun x hx => (a5 x hx).elim (a5' x) (fun h => Or.inr (a4' x h))⟩, fun x hx => ?_, fun v hv => ?_, fun x hx => ?_, fun z hz => ?_, fun z hz => f' z (f z hz)⟩
  · obtain ⟨p1, p2, p3, p4, p5, p6⟩ := b x hx
    obtain ⟨q1, q2, q3, q4, q5, q6⟩ := b' x (by omega)
    exact ⟨q1.trans p1, q2.trans p2, q3.trans p3, q4.trans p4, q5.trans p5, q6.trans p6⟩
  · exact (c' v (by omega)).trans (c v hv)
  · obtain ⟨p1, p2, p3, p4, p5, p6, p7⟩ := d x hx
    obtain ⟨q1, q2, q3, q4, q5, q6, q7⟩ := d' x (by omega)
    exact ⟨q1.trans p1, q2.trans p2, q3.trans p3, q4.trans p4, q5.trans p5, q6.trans p6, fun h => q7 (p7 h)⟩
  · exact (e' z (by omega)).trans (e z hz)
theorem Fi.ext {s s' : aS} {y y' : aG} {p e z : Nat} (h : Fi s y p e z) (hz : z < sZ y) (hE : Ex s y s' y') : Fi s' y' p e z := by
  obtain ⟨h1, h2, h3, h4⟩ := h
  obtain ⟨⟨a1, -, -⟩, b, -, d, e1, f⟩ := hE
  obtain ⟨-, p2, -⟩ := b p h1
  obtain ⟨q1, q2, q3, -⟩ := d p h1
  refine ⟨by omega, by omega, ?_, fun h5 => ?_⟩
  · rw [q2, p2, q1, e1 z hz]
    exact h3
  · rw [p2] at h5
    rw [q3, q2, q1]
    exact ⟨(h4 h5).1, (h4 h5).2.imp id (f _)⟩
theorem lmax.ext {s s' : aS} : ∀ l : List Nat, (∀ x ∈ l, lev s' x = lev s x) → lmax s' l = lmax s l
  | [], _ => rfl
  | x :: l, h => by
    show max (lev s' x) (lmax s' l) = max (lev s x) (lmax s l)
    rw [h x (by simp), lmax.ext l (fun z hz => h z (by simp [hz]))]
theorem lmax.le {s : aS} : ∀ (l : List Nat) (x : Nat), x ∈ l → lev s x ≤ lmax s l
  | a :: l, x, h => by
    show lev s x ≤ max (lev s a) (lmax s l)
    rcases List.mem_cons.mp h with h | h
    · rw [h]
      exact Nat.le_max_left _ _
    · exact Nat.le_trans (lmax.le l x h) (Nat.le_max_right _ _)
theorem lmax.at {s : aS} : ∀ (l : List Nat), lmax s l = 0 ∨ ∃ x ∈ l, lev s x = lmax s l
  | [] => Or.inl rfl
  | a :: l => by
    show max (lev s a) (lmax s l) = 0 ∨ ∃ x ∈ a :: l, lev s x = max (lev s a) (lmax s l)
    rcases Nat.le_total (lmax s l) (lev s a) with h | h
    · right
      exact ⟨a, by simp, by omega⟩
    · rcases lmax.at (s := s) l with h1 | ⟨x, h1, h2⟩
      · left
        omega
      · right
        exact ⟨x, by simp [h1], by omega⟩
theorem Apc.ext {s s' : aS} {y y' : aG} {p : Nat} (h : Apc y p) (hp : p < nT s) (hE : Ex s y s' y') : Apc y' p := fun hr => by
  rw [(hE.2.2.2.1 p hp).2.2.2.1] at hr
  exact (h hr).elim (fun h => Or.inl (hE.1.2.2.2.1 p h)) (fun h => (hE.1.2.2.2.2 p h).symm)
theorem Zok.ext {s s' : aS} {y y' : aG} {z : Nat} (h : Zok y z) (hz : z < sZ y) (hp : ∀ d z' : Nat, (pth y z)[d]? = some z' → z' < sZ y) (hE : Ex s y s' y') : Zok y' z := by
  obtain ⟨-, -, -, -, e1, -⟩ := hE
  unfold Zok
  rw [e1 z hz]
  exact ⟨h.1, fun d z' hd => (e1 z' (hp d z' hd)).trans (h.2 d z' hd)⟩
theorem Typ.ext {s s' : aS} {y y' : aG} {t : Nat} (h : Typ s y t) (ht : t < nT s) (hE : Ex s y s' y') (hzp : ∀ z, z < sZ y → ∀ z' ∈ pth y z, z' < sZ y)
    (h0 : srt s t = 3 → ∀ x ∈ row s' 0 t, x ∈ row s 0 t ∨ (Fi s' y' x (lev s t) (zn y t) ∧ ps y' x = 1 ∧ (rm y' x = 1 → it y' x = 1)))
    (h1 : srt s t = 3 → ∀ x ∈ row s' 1 t, x ∈ row s 1 t ∨ (Fi s' y' x (lev s t) (zn y t) ∧ ng y' x = 1)) : Typ s' y' t := by
  have hE0 := hE
  obtain ⟨⟨a1, a2, a3, -, -⟩, b, c, d, e1, f⟩ := hE
  obtain ⟨b1, b2, b3, b4, b5, b6⟩ := b t ht
  obtain ⟨d1, d2, d3, d4, d5, d6, d7⟩ := d t ht
  obtain ⟨⟨k1, k2⟩, h⟩ := h
  unfold Typ
  rw [b1, b2, b3, b4, b5, b6, d1, d2, d3, d4, d5, d6]
  refine ⟨⟨by omega, k2⟩, ?_⟩
  rcases h with h | ⟨g1, ⟨g2, g3, g4⟩, ⟨g5, g6⟩, g7, g8, g9, g10, g11, g12, g13⟩ | ⟨g1, g2, g3, g4, g5⟩ | ⟨g1, g2, g3, g4, ⟨g5, g6⟩, g7, g8⟩
  · exact Or.inl h
  · right
    left
    obtain ⟨-, p2, -⟩ := b (one s t) (by omega)
    obtain ⟨-, q2, -⟩ := b (two s t) (by omega)
    obtain ⟨-, r2, -, -, r5, r6, -⟩ := d (one s t) (by omega)
    obtain ⟨-, t2, -, -, t5, t6, -⟩ := d (two s t) (by omega)
    rw [p2, q2, r2, t2, r5, r6, t5, t6]
    exact ⟨g1, ⟨g2, g3, g4⟩, ⟨g5.ext k1 hE0, g6.ext k1 hE0⟩, g7, g8, g9, g10, g11, g12.ext (s := s) (s' := s') (by omega) hE0, g13.ext (s := s) (s' := s') (by omega) hE0⟩
  · right
    right
    left
    refine ⟨g1, fun p hp => ?_, ?_, g4, g5⟩
    · obtain ⟨i1, i2, i3, i4, i5, i6⟩ := g2 p hp
      obtain ⟨-, r2, r3, -, r5, r6, -⟩ := d p (by omega)
      rw [r2, r3, r5, r6]
      exact ⟨i1, i2.ext k1 hE0, i3, i4, i5, i6⟩
    · rw [lmax.ext (s := s) (s' := s') _ (fun x hx => (b x (by have := (g2 x hx).1; omega)).2.1)]
      exact g3
  · right
    right
    right
    refine ⟨g1, by omega, (c _ g2).trans g3, g4, ⟨Zok.ext (s := s) (s' := s') g5 k1 (fun dd z' hd => hzp _ k1 z' (List.mem_of_getElem? hd)) hE0, ?_⟩, fun x hx => ?_, fun x hx => ?_⟩
    · rw [e1 _ k1]
      exact g6
    · rcases h0 g1 x hx with h0 | h0
      · obtain ⟨i1, i2, i3⟩ := g7 x h0
        obtain ⟨-, -, -, r4, r5, -, r7⟩ := d x i1.1
        rw [r5, r4]
        exact ⟨i1.ext k1 hE0, i2, fun h => r7 (i3 h)⟩
      · exact h0
    · rcases h1 g1 x hx with h1 | h1
      · obtain ⟨i1, i2⟩ := g8 x h1
        obtain ⟨-, -, -, -, -, r6, -⟩ := d x i1.1
        rw [r6]
        exact ⟨i1.ext k1 hE0, i2⟩
      · exact h1
