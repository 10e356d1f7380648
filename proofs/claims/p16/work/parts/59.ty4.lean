theorem mkA_ok {s : aS} {y : aG} {c l a b : Nat} (hI : Inv s y c) (hz : Cx y c l c) (h : sto s = 0 → Fi s y a l c ∧ Fi s y b l c ∧ max (lev s a) (lev s b) = l ∧ Apc y a ∧ Apc y b) :
    (sto s ≠ 0 → sto (mkA s a b).1 ≠ 0) ∧ ∃ y', Inv (mkA s a b).1 y' c ∧ Ex s y (mkA s a b).1 y' ∧ (sF y' = sF y ∧ sA y' = sA y ∧ (∀ t, nf y' t = nf y t) ∧ ∀ z, ih y' z = ih y z) ∧ ((mkA s a b).1.1 8 = s.1 8 ∧ (mkA s a b).1.1 9 = s.1 9) ∧
      (sto (mkA s a b).1 = 0 → sto s = 0 ∧ (mkA s a b).2 = nT s ∧ Fi (mkA s a b).1 y' (nT s) l c ∧ srt (mkA s a b).1 (nT s) = 1 ∧ (ng y a = 1 → ps y b = 1 → ps y' (nT s) = 1) ∧ (ps y a = 1 → ng y b = 1 → ng y' (nT s) = 1)) := by
  by_cases h0 : sto s ≠ 0
  · have e : mkA s a b = (s, 0) := by
      unfold mkA
      rw [if_pos h0]
    rw [e]
    exact ⟨fun h => h, y, hI, Ex.rf, ⟨rfl, rfl, fun _ => rfl, fun _ => rfl⟩, ⟨rfl, rfl⟩, fun h => absurd h h0⟩
  refine ⟨fun h => absurd h h0, ?_⟩
  have h0' : sto s = 0 := by omega
  obtain ⟨q1, q2, q3, q4, q5⟩ := h h0'
  by_cases hN : nT s = 602
  · have e : mkA s a b = (stops s 1 (askn s), 0) := by
      unfold mkA
      rw [if_neg h0, if_pos hN]
    rw [e]
    obtain ⟨u1, u2⟩ := i_stops (w := 1) (p := askn s) hI
    refine ⟨y, u1, u2, ⟨rfl, rfl, fun _ => rfl, fun _ => rfl⟩, ?_, fun h => absurd h (sto_stops (by omega))⟩
    show (stops s 1 (askn s)).1 8 = s.1 8 ∧ (stops s 1 (askn s)).1 9 = s.1 9
    unfold stops
    split <;> exact ⟨rfl, rfl⟩
  obtain ⟨j1, j2, j3, j4, j5, j6, j7, j8, j9, j10⟩ := i_mkA hI hz q1 q2 q3 h0' hN q4 q5
  have k := j4.2.1
  exact ⟨yA s y c a b, j1, j2, ⟨congrFun (k 20 (by omega)) 0, congrFun (k 20 (by omega)) 7, fun t => congrFun (k 10 (by omega)) t, fun z => congrFun (k 15 (by omega)) z⟩, ⟨j4.2.2.2.2.2.2.2.2.2.2.2.1, j4.2.2.2.2.2.2.2.2.2.2.2.2⟩, fun _ => ⟨h0', j3, j5, j7, j9, j10⟩⟩
theorem mkR_ok {s : aS} {y : aG} {c l r : Nat} {ls ps' : List Nat} (hI : Inv s y c) (hz : Cx y c l c) (hr : r ≤ 1) (h : sto s = 0 → (∀ p ∈ ps', Fi s y p l c) ∧ (lmax s ps' = l ∨ r = 1) ∧ ls.length = ps'.length) :
    (sto s ≠ 0 → sto (mkR s ls ps').1 ≠ 0) ∧ ∃ y', Inv (mkR s ls ps').1 y' c ∧ Ex s y (mkR s ls ps').1 y' ∧ (sF y' = sF y ∧ sA y' = sA y ∧ (∀ t, nf y' t = nf y t) ∧ ∀ z, ih y' z = ih y z) ∧ ((mkR s ls ps').1.1 8 = s.1 8 ∧ (mkR s ls ps').1.1 9 = s.1 9) ∧
      (sto (mkR s ls ps').1 = 0 → sto s = 0 ∧ (mkR s ls ps').2 = nT s ∧ Fi (mkR s ls ps').1 y' (nT s) l c ∧ srt (mkR s ls ps').1 (nT s) = 2 ∧ ((∀ p ∈ ps', ps y p = 1) → ps y' (nT s) = 1) ∧ (r = 0 → ps'.length ≤ 1 → (∀ p ∈ ps', ng y p = 1) → ng y' (nT s) = 1)) := by
  by_cases h0 : sto s ≠ 0
  · have e : mkR s ls ps' = (s, 0) := by
      unfold mkR
      rw [if_pos h0]
    rw [e]
    exact ⟨fun h => h, y, hI, Ex.rf, ⟨rfl, rfl, fun _ => rfl, fun _ => rfl⟩, ⟨rfl, rfl⟩, fun h => absurd h h0⟩
  refine ⟨fun h => absurd h h0, ?_⟩
  have h0' : sto s = 0 := by omega
  obtain ⟨q1, q2, q3⟩ := h h0'
  by_cases hN : nT s = 602
  · have e : mkR s ls ps' = (stops s 1 (askn s), 0) := by
      unfold mkR
      rw [if_neg h0, if_pos hN]
    rw [e]
    obtain ⟨u1, u2⟩ := i_stops (w := 1) (p := askn s) hI
    refine ⟨y, u1, u2, ⟨rfl, rfl, fun _ => rfl, fun _ => rfl⟩, ?_, fun h => absurd h (sto_stops (by omega))⟩
    show (stops s 1 (askn s)).1 8 = s.1 8 ∧ (stops s 1 (askn s)).1 9 = s.1 9
    unfold stops
    split <;> exact ⟨rfl, rfl⟩
  obtain ⟨j1, j2, j3, j4, j5, j6, j7, j8, j9, j10, -, -⟩ := i_mkR (r := r) (ls := ls) hI hz q1 q2 q3 hr h0' hN
  have k := j4.2.1
  exact ⟨yR s y c ps' r, j1, j2, ⟨congrFun (k 20 (by omega)) 0, congrFun (k 20 (by omega)) 7, fun t => congrFun (k 10 (by omega)) t, fun z => congrFun (k 15 (by omega)) z⟩, ⟨j4.2.2.2.2.2.2.2.2.2.2.2.1, j4.2.2.2.2.2.2.2.2.2.2.2.2⟩, fun _ => ⟨h0', j3, j5, j7, j9, j10⟩⟩
theorem Cx.ext {s s' : aS} {y y' : aG} {c l : Nat} (h : Cx y c l c) (hG : Glo s y c) (hE : Ex s y s' y') : Cx y' c l c := by
  unfold Cx
  rw [hE.2.2.2.2.1 c hG.2.2.1.2.1]
  exact h
/-- APPLY -/
theorem apply_ok {tr : aM} {top : Nat} {rk : Nat → Nat} {Vd : Nat → Prop} {f : aS → Nat → Nat → aS × Nat} (hf : TyF tr top rk Vd f) (hr : ∀ c, tr 3 c ≠ 0 → rk (tr 3 c - 1) < rk c) {s : aS} {y : aG} {c l n p q : Nat} (h0 : sto s = 0) (hW : W2 s) (hI : Inv s y c) (hz : Cx y c l c) (hC : ∀ j, Cv (Pb s y c l) tr top j n) (hp : tr 3 p = n + 1) (hq : tr 3 q = n + 1) (hvp : Vd p) (hvq : Vd q) (hb1 : ¬ covers tr n p) (hb2 : ¬ covers tr n q) {s1 s2 s3 s4 : aS × Nat}
    (e1 : s1 = f s p l) (e2 : s2 = f s1.1 q l) (e3 : s3 = fresh s2.1 n l) (e4 : s4 = mkA s3.1 s2.2 s3.2) : TyG rk s y c l n (puts s4.1 n s1.2 s4.2, s3.2) := by
  refine ⟨fun h => absurd h0 h, ?_⟩
  obtain ⟨-, a0, y2, a1, a2, a3, a4, a5, a6⟩ := two_ok hf hr hW hI hz hC hp hq hvp hvq hb1 hb2
  rw [← e1] at a0 a1 a2 a3 a5 a6
  rw [← e2] at a0 a1 a2 a3 a5 a6
  obtain ⟨b0, y3, b1, b2, b3, ⟨b4, b5⟩, b6⟩ := fresh_ok (n := n) a1 a4
  rw [← e3] at b0 b1 b2 b3 b4 b5 b6
  have hz3 := a4.ext a1.1 b2
  -- the argument goes into a function's
  obtain ⟨y3', g1, g2, g3, g4, g5, g6⟩ : ∃ y3', Inv s3.1 y3' c ∧ Ex s3.1 y3 s3.1 y3' ∧ (sto s3.1 = 0 → Apc y3' s2.2) ∧ sF y2 + sA y3' ≤ sF y3' + sA y2 ∧ (∀ t, nf y3' t = nf y3 t) ∧ ∀ z, ih y3' z = ih y3 z := by
    by_cases hs : sto s3.1 = 0
    · obtain ⟨-, -, -, -, -, -, -, c8⟩ := b6 hs
      have hAF := a1.1.2.2.2.2.1.2.2.2.1
      obtain ⟨i1, i2, i3, i4, i5⟩ := i_apl (p := s2.2) b1 (by omega)
      exact ⟨yap y3 s2.2, i1, i2, fun _ _ => Or.inr i3, by omega, fun _ => rfl, fun _ => rfl⟩
    · exact ⟨y3, b1, Ex.rf, fun h => absurd h hs, b3.1, fun _ => rfl, fun _ => rfl⟩
  have hE3 := b2.tr g2
  have hz3' := a4.ext a1.1 hE3
  have hst : ∀ {x : Nat}, sto s3.1 = x → x = 0 → sto s2.1 = 0 := fun hx hx0 => Classical.byContradiction (fun h => b0 h (hx.trans hx0))
  have hmk := mkA_ok (s := s3.1) (a := s2.2) (b := s3.2) g1 hz3' (fun hs => by
    obtain ⟨c1, c2, c3, c4, c5, c6, c7, c8⟩ := b6 hs
    obtain ⟨-, d1, d2⟩ := a6 (hst hs rfl)
    have d1' := d1.ext a1.1.2.2.1.2.1 hE3
    have c2' := c2.ext b1.1.2.2.1.2.1 g2
    rw [c1]
    refine ⟨d1', c2', ?_, g3 hs, fun h => ?_⟩
    · have := d1'.2.1
      omega
    · have := (nw_of g1 c2'.1 c3).2.2
      omega)
  rw [← e4] at hmk
  obtain ⟨k0, y4, k1, k2, ⟨k3, k4, k5, k6⟩, ⟨k7, k8⟩, k9⟩ := hmk
  have hE4 := hE3.tr k2
  have hz4 := a4.ext a1.1 hE4
  obtain ⟨m0, y5, m1, m2, ⟨m3, m4⟩, m5, ⟨m6, m7⟩⟩ := puts_ok (n := n) (a := s1.2) (b := s4.2) (v := 0) k1 hz4 (by omega) (fun hs => by
    obtain ⟨n1, n2, n3, n4, n5, n6⟩ := k9 hs
    obtain ⟨c1, c2, c3, c4, c5, c6, c7, c8⟩ := b6 n1
    obtain ⟨⟨d1, d2⟩, d3, d4⟩ := a6 (hst n1 rfl)
    rw [n2]
    refine ⟨d1.ext a1.1.2.2.1.2.1 hE4, n3, by rw [(hE4.2.2.2.1 _ d1.1).2.2.2.2.1]; exact d2, ?_, Or.inl (by rw [k6, g6]; exact c5), fun h => by omega, fun h => by omega⟩
    refine n6 (by rw [(hE3.2.2.2.1 _ d3.1).2.2.2.2.1]; exact d4) ?_
    rw [c1]
    exact (nw_of g1 (by have := c2.1; have := g2.1.1; omega) c3).2.1)
  have hE5 := hE4.tr m2
  refine ⟨y5, m1, a2.tr hE5, ⟨?_, fun t ht => ?_⟩, fun u hu => ?_, fun hs => ?_⟩
  · have := a3.1
    omega
  · have h5 := m5 t (by have := (a2.tr hE4).1.1; omega)
    rw [if_neg (by omega), k5, g5] at h5
    have h6 := b3.2 t (by have := a2.1.1; omega)
    have h7 := a3.2 t ht
    omega
  · obtain ⟨x1, x2⟩ := a5 u (by omega)
    refine ⟨?_, ?_⟩
    · show (puts s4.1 n s1.2 s4.2).1 8 u = _
      rw [m6, k7, b4]
      exact x1
    · show (puts s4.1 n s1.2 s4.2).1 9 u = _
      rw [m7, k8, b5]
      exact x2
  · have hs4 : sto s4.1 = 0 := Classical.byContradiction (fun h => m0 h hs)
    obtain ⟨n1, -⟩ := k9 hs4
    obtain ⟨c1, c2, c3, c4, c5, c6, c7, c8⟩ := b6 n1
    have hE35 := (g2.tr k2).tr m2
    show Fi (puts s4.1 n s1.2 s4.2) y5 s3.2 l c ∧ ps y5 s3.2 = 1
    rw [c1]
    refine ⟨c2.ext b1.1.2.2.1.2.1 hE35, ?_⟩
    rw [(hE35.2.2.2.1 _ c2.1).2.2.2.2.1]
    exact (nw_of b1 c2.1 c3).1
