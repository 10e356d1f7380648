/-- who is stopped does nothing -/
def TyS (f : aS → Nat → Nat → aS × Nat) : Prop := ∀ s n l, sto s ≠ 0 → (f s n l).1 = s
theorem ty_stop {tr : aM} {top : Nat} : ∀ k, TyS (ty tr top k)
  | 0 => fun s n l h => by
    show stops s 1 n = s
    unfold stops
    rw [if_neg h]
  | k + 1 => fun s n l h => by
    unfold ty
    rw [if_pos h]
theorem gives_at (s : aS) (n t sc u : Nat) : (gives s n t sc).1 8 u = (if u = n then t else s.1 8 u) ∧ (gives s n t sc).1 9 u = (if u = n then sc else s.1 9 u) := by
  refine ⟨?_, ?_⟩
  · simp [gives, w1, mst]
  · simp [gives, w1, mst]
/-- FUNCTION -/
theorem function_ok {tr : aM} {top : Nat} {rk : Nat → Nat} {Vd : Nat → Prop} {f : aS → Nat → Nat → aS × Nat} (hf : TyF tr top rk Vd f) (hfs : TyS f) (hr : ∀ c, tr 3 c ≠ 0 → rk (tr 3 c - 1) < rk c) {s : aS} {y : aG} {c l n p : Nat} (h0 : sto s = 0) (hW : W2 s) (hI : Inv s y c) (hz : Cx y c l c) (hC : ∀ j, Cv (Pb s y c l) tr top j n) (hp : tr 3 p = n + 1) (hvp : Vd p) {s1 s2 : aS × Nat}
    (e1 : s1 = fresh s n l) (e2 : s2 = f (gives s1.1 n s1.2 0) p l) : TyG rk s y c l n (mkA (w1 s2.1 0 5 n) s1.2 s2.2) := by
  refine ⟨fun h => absurd h0 h, ?_⟩
  obtain ⟨b0, y1, b1, b2, b3, ⟨b4, b5⟩, b6⟩ := fresh_ok (n := n) hI hz
  rw [← e1] at b0 b1 b2 b3 b4 b5 b6
  obtain ⟨i1, i2⟩ := i_give (n := n) (t := s1.2) (sc := 0) b1
  have hz1 := hz.ext hI.1 b2
  have g8 : ∀ u, u ≠ n → (gives s1.1 n s1.2 0).1 8 u = s1.1.1 8 u ∧ (gives s1.1 n s1.2 0).1 9 u = s1.1.1 9 u := fun u hu => by
    obtain ⟨x1, x2⟩ := gives_at s1.1 n s1.2 0 u
    rw [if_neg hu] at x1 x2
    exact ⟨x1, x2⟩
  have hfr : ∀ u, rk u < rk n → (gives s1.1 n s1.2 0).1 8 u = s.1 8 u ∧ (gives s1.1 n s1.2 0).1 9 u = s.1 9 u := fun u hu => by
    have hne : u ≠ n := fun h => by
      rw [h] at hu
      omega
    obtain ⟨x1, x2⟩ := g8 u hne
    exact ⟨x1.trans (by rw [b4]), x2.trans (by rw [b5])⟩
  by_cases hs1 : sto s1.1 ≠ 0
  · have hsg : sto (gives s1.1 n s1.2 0) ≠ 0 := hs1
    have e3 : s2.1 = gives s1.1 n s1.2 0 := by
      rw [e2]
      exact hfs _ _ _ hsg
    obtain ⟨k1, k2⟩ := i_askn (n := n) i1
    have em : mkA (w1 s2.1 0 5 n) s1.2 s2.2 = (w1 (gives s1.1 n s1.2 0) 0 5 n, 0) := by
      rw [e3]
      unfold mkA
      rw [if_pos (show sto (w1 (gives s1.1 n s1.2 0) 0 5 n) ≠ 0 from hs1)]
    rw [em]
    exact ⟨y1, k1, (b2.tr i2).tr k2, b3, hfr, fun h => absurd h hs1⟩
  have hs1' : sto s1.1 = 0 := by omega
  obtain ⟨c1, c2, c3, c4, c5, c6, c7, c8⟩ := b6 hs1'
  have hE1 := b2.tr i2
  have hPb : Pb (gives s1.1 n s1.2 0) y1 c l n := by
    obtain ⟨x8, x9⟩ := gives_at s1.1 n s1.2 0 n
    rw [if_pos rfl] at x8 x9
    replace x8 := x8.trans c1
    refine ⟨fun _ => ?_, fun m hm => by omega⟩
    rw [x8]
    exact ⟨c2.ext b1.1.2.2.1.2.1 i2, c3, by rw [c7]; exact c5⟩
  obtain ⟨⟨d0, y2, d1, d2, d3, d4, d5⟩, d6, d7⟩ := part_ok hf hr hW hI hz hC i1 hE1 hfr hp hvp (fun _ => hPb)
  rw [← e2] at d0 d1 d2 d3 d4 d5
  obtain ⟨k1, k2⟩ := i_askn (n := n) d1
  have hE2 := (hE1.tr d2).tr k2
  have hz2 := hz.ext hI.1 hE2
  obtain ⟨y2', g1, g2, g3, g4, g5⟩ : ∃ y2', Inv (w1 s2.1 0 5 n) y2' c ∧ Ex (w1 s2.1 0 5 n) y2 (w1 s2.1 0 5 n) y2' ∧ Apc y2' s2.2 ∧ sF y + sA y2' ≤ sF y2' + sA y ∧ ∀ t, nf y2' t = nf y2 t := by
    have hAF := hI.1.2.2.2.2.1.2.2.2.1
    have hd3 := d3.1
    obtain ⟨i1', i2', i3', i4', i5'⟩ := i_apl (p := s2.2) k1 (by omega)
    exact ⟨yap y2 s2.2, i1', i2', fun _ => Or.inr i3', by omega, fun _ => rfl⟩
  have hE3 := hE2.tr g2
  have hz3 := hz.ext hI.1 hE3
  have hnt : nT s < nT s1.1 := c2.1
  have hE13 := ((i2.tr d2).tr k2).tr g2
  have hmk := mkA_ok (s := w1 s2.1 0 5 n) (a := s1.2) (b := s2.2) g1 hz3 (fun hs => by
    obtain ⟨m1, m2⟩ := d5 hs
    have c2' := c2.ext b1.1.2.2.1.2.1 hE13
    have m1' := m1.ext d1.1.2.2.1.2.1 (k2.tr g2)
    rw [c1]
    refine ⟨c2', m1', ?_, fun h => ?_, g3⟩
    · have h5 : lev (w1 s2.1 0 5 n) (nT s) = l := ((hE13.2.1 _ c2.1).2.1).trans c4
      have := m1'.2.1
      omega
    · have := (nw_of g1 c2'.1 (((hE13.2.1 _ c2.1).1).trans c3)).2.2
      omega)
  obtain ⟨q0, y4, q1, q2, ⟨q3, q4, q5, q6⟩, ⟨q7, q8⟩, q9⟩ := hmk
  refine ⟨y4, q1, hE3.tr q2, ⟨by omega, fun t ht => ?_⟩, fun u hu => ?_, fun hs => ?_⟩
  · rw [q5, g5]
    exact Nat.le_trans (d3.2 t (by have := hE1.1.1; omega)) (b3.2 t ht)
  · obtain ⟨x1, x2⟩ := d4 u (by omega)
    obtain ⟨x3, x4⟩ := hfr u hu
    rw [q7, q8]
    exact ⟨x1.trans x3, x2.trans x4⟩
  · obtain ⟨r1, r2, r3, r4, r5, r6⟩ := q9 hs
    obtain ⟨m1, m2⟩ := d5 r1
    rw [r2]
    refine ⟨r3, r5 ?_ ?_⟩
    · rw [c1]
      exact (nw_of g1 (by have := hE13.1.1; omega) (((hE13.2.1 _ c2.1).1).trans c3)).2.1
    · rw [((k2.tr g2).2.2.2.1 _ m1.1).2.2.2.2.1]
      exact m2
