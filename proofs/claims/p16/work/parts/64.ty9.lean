/-- PICK -/
theorem pick_ok {tr : aM} {top : Nat} {rk : Nat → Nat} {Vd : Nat → Prop} {f : aS → Nat → Nat → aS × Nat} (hf : TyF tr top rk Vd f) (hr : ∀ c, tr 3 c ≠ 0 → rk (tr 3 c - 1) < rk c) {s : aS} {y : aG} {c l n p q r : Nat} (h0 : sto s = 0) (hW : W2 s) (hI : Inv s y c) (hz : Cx y c l c) (hC : ∀ j, Cv (Pb s y c l) tr top j n) (hp : tr 3 p = n + 1) (hq : tr 3 q = n + 1) (hr' : tr 3 r = n + 1) (hvp : Vd p) (hvq : Vd q) (hvr : Vd r) (hb1 : ¬ covers tr n p) (hb2 : ¬ covers tr n q) (hb3 : ¬ covers tr n r) {s1 s3 s4 s6 : aS × Nat} {s2 s5 : aS}
    (e1 : s1 = f s p l) (e2 : s2 = puts s1.1 n s1.2 1) (e3 : s3 = fresh s2 n l) (e4 : s4 = f s3.1 q l) (e5 : s5 = puts s4.1 n s4.2 s3.2) (e6 : s6 = f s5 r l) : TyG rk s y c l n (puts s6.1 n s6.2 s3.2, s3.2) := by
  refine ⟨fun h => absurd h0 h, ?_⟩
  obtain ⟨⟨a0, y1, a1, a2, a3, a4, a5⟩, a6, a7⟩ := part_ok hf hr hW hI hz hC hI Ex.rf (fun u _ => ⟨rfl, rfl⟩) hp hvp (fun h => absurd h hb1)
  rw [← e1] at a0 a1 a2 a3 a4 a5
  obtain ⟨b0, y2, b1, b2, b3, b4, b5⟩ := ask_ok (n := n) (t := s1.2) (w := 1) a1 (hz.ext hI.1 a2) (hW.ext hI.1 a2) (by omega) a5
  rw [← e2] at b0 b1 b2 b3 b4 b5
  have hE2 := a2.tr b2
  have hk2 := a3.tr b3 a2
  have hfr2 : ∀ u, rk u < rk n → s2.1 8 u = s.1 8 u ∧ s2.1 9 u = s.1 9 u := fun u hu => by
    obtain ⟨x1, x2⟩ := a4 u (by omega)
    exact ⟨(by rw [b4] : s2.1 8 u = s1.1.1 8 u).trans x1, (by rw [b5] : s2.1 9 u = s1.1.1 9 u).trans x2⟩
  obtain ⟨c0, y3, c1, c2, c3, ⟨c4, c5⟩, c6⟩ := fresh_ok (n := n) b1 (hz.ext hI.1 hE2)
  rw [← e3] at c0 c1 c2 c3 c4 c5 c6
  have hE3 := hE2.tr c2
  have hk3 := hk2.tr c3 hE2
  have hfr3 : ∀ u, rk u < rk n → s3.1.1 8 u = s.1 8 u ∧ s3.1.1 9 u = s.1 9 u := fun u hu => by
    obtain ⟨x1, x2⟩ := hfr2 u hu
    exact ⟨(by rw [c4] : s3.1.1 8 u = s2.1 8 u).trans x1, (by rw [c5] : s3.1.1 9 u = s2.1 9 u).trans x2⟩
  obtain ⟨⟨d0, y4, d1, d2, d3, d4, d5⟩, d6, d7⟩ := part_ok hf hr hW hI hz hC c1 hE3 hfr3 hq hvq (fun h => absurd h hb2)
  rw [← e4] at d0 d1 d2 d3 d4 d5
  have hE4 := hE3.tr d2
  have hk4 := hk3.tr d3 hE3
  have hfr4 : ∀ u, rk u < rk n → s4.1.1 8 u = s.1 8 u ∧ s4.1.1 9 u = s.1 9 u := fun u hu => by
    obtain ⟨x1, x2⟩ := d4 u (by omega)
    obtain ⟨x3, x4⟩ := hfr3 u hu
    exact ⟨x1.trans x3, x2.trans x4⟩
  -- the fresh one, later on
  have later : ∀ (S : aS) (Y : aG), Ex s3.1 y3 S Y → Inv S Y c → sto s3.1 = 0 → s3.2 = nT s2 ∧ Fi S Y (nT s2) l c ∧ ng Y (nT s2) = 1 ∧ ps Y (nT s2) = 1 ∧ ih Y c = 1 ∧ nT s2 < nT s3.1 := fun S Y hE hIS hs => by
    obtain ⟨g1, g2, g3, g4, g5, g6, g7, g8⟩ := c6 hs
    have g2' := g2.ext c1.1.2.2.1.2.1 hE
    obtain ⟨n1, n2, n3⟩ := nw_of hIS g2'.1 (((hE.2.1 _ g2.1).1).trans g3)
    exact ⟨g1, g2', n2, n1, hE.2.2.2.2.2 _ g5, g2.1⟩
  obtain ⟨m0, y5, m1, m2, ⟨m3, m4⟩, m5, ⟨m6, m7⟩⟩ := puts_ok (n := n) (a := s4.2) (b := s3.2) (v := 1) d1 (hz.ext hI.1 hE4) (by omega) (fun hs => by
    have hs3 : sto s3.1 = 0 := Classical.byContradiction (fun h => d0 h hs)
    obtain ⟨g1, g2, g3, g4, g5, g6⟩ := later s4.1 y4 d2 d1 hs3
    obtain ⟨t1, t2⟩ := d5 hs
    have hnf := d3.2 (nT s2) g6
    have hnf0 := (c6 hs3).2.2.2.2.2.1
    rw [g1]
    exact ⟨t1, g2, t2, g3, Or.inl g5, fun _ => rfl, fun _ => by omega⟩)
  rw [← e5] at m0 m1 m2 m6 m7
  have hE5 := hE4.tr m2
  have hst3 : sto s3.1 ≠ 0 → sto s4.1 ≠ 0 := d0
  have hk5 : Kt s y s5 y5 := by
    refine ⟨by have := hk4.1; omega, fun t ht => ?_⟩
    have h5 := m5 t (by have := hE4.1.1; omega)
    have hne : ¬ (sto s4.1 = 0 ∧ 1 = 1 ∧ t = s3.2) := fun ⟨h6, _, h7⟩ => by
      have hs3 : sto s3.1 = 0 := Classical.byContradiction (fun h => d0 h h6)
      have := (c6 hs3).1
      have := hE2.1.1
      omega
    rw [if_neg hne] at h5
    have := hk4.2 t ht
    omega
  have hfr5 : ∀ u, rk u < rk n → s5.1 8 u = s.1 8 u ∧ s5.1 9 u = s.1 9 u := fun u hu => by
    obtain ⟨x1, x2⟩ := hfr4 u hu
    exact ⟨(by rw [m6] : s5.1 8 u = s4.1.1 8 u).trans x1, (by rw [m7] : s5.1 9 u = s4.1.1 9 u).trans x2⟩
  obtain ⟨⟨r0, y6, r1, r2, r3, r4, r5⟩, r6, r7⟩ := part_ok hf hr hW hI hz hC m1 hE5 hfr5 hr' hvr (fun h => absurd h hb3)
  rw [← e6] at r0 r1 r2 r3 r4 r5
  have hE6 := hE5.tr r2
  have hk6 := hk5.tr r3 hE5
  have hE36 := (d2.tr m2).tr r2
  have hst6 : sto s6.1 = 0 → sto s3.1 = 0 := fun h => Classical.byContradiction (fun h3 => r0 (m0 (d0 h3)) h)
  obtain ⟨k0, y7, k1, k2, ⟨k3, k4⟩, k5, ⟨k6, k7⟩⟩ := puts_ok (n := n) (a := s6.2) (b := s3.2) (v := 1) r1 (hz.ext hI.1 hE6) (by omega) (fun hs => by
    have hs3 := hst6 hs
    obtain ⟨g1, g2, g3, g4, g5, g6⟩ := later s6.1 y6 hE36 r1 hs3
    obtain ⟨t1, t2⟩ := r5 hs
    have hnf0 := (c6 hs3).2.2.2.2.2.1
    have hnf1 := d3.2 (nT s2) g6
    have hnf2 := m5 (nT s2) (by have := d2.1.1; omega)
    have hnf3 := r3.2 (nT s2) (by have := (d2.tr m2).1.1; omega)
    have : (if sto s4.1 = 0 ∧ 1 = 1 ∧ nT s2 = s3.2 then 1 else 0) ≤ 1 := by split <;> omega
    rw [g1]
    exact ⟨t1, g2, t2, g3, Or.inl g5, fun _ => rfl, fun _ => by omega⟩)
  have hE7 := hE6.tr k2
  refine ⟨y7, k1, hE7, ⟨by have := hk6.1; omega, fun t ht => ?_⟩, fun u hu => ?_, fun hs => ?_⟩
  · have h5 := k5 t (by have := hE6.1.1; omega)
    have hne : ¬ (sto s6.1 = 0 ∧ 1 = 1 ∧ t = s3.2) := fun ⟨h6, _, h7⟩ => by
      have := (c6 (hst6 h6)).1
      have := hE2.1.1
      omega
    rw [if_neg hne] at h5
    have := hk6.2 t ht
    omega
  · obtain ⟨x1, x2⟩ := r4 u (by omega)
    obtain ⟨x3, x4⟩ := hfr5 u hu
    refine ⟨?_, ?_⟩
    · show (puts s6.1 n s6.2 s3.2).1 8 u = _
      rw [k6]
      exact x1.trans x3
    · show (puts s6.1 n s6.2 s3.2).1 9 u = _
      rw [k7]
      exact x2.trans x4
  · have hs6 : sto s6.1 = 0 := Classical.byContradiction (fun h => k0 h hs)
    obtain ⟨g1, g2, g3, g4, g5, g6⟩ := later (puts s6.1 n s6.2 s3.2) y7 (hE36.tr k2) k1 (hst6 hs6)
    show Fi (puts s6.1 n s6.2 s3.2) y7 s3.2 l c ∧ ps y7 s3.2 = 1
    obtain ⟨S, hS⟩ : ∃ S, S = puts s6.1 n s6.2 s3.2 := ⟨_, rfl⟩
    rw [← hS] at g2 ⊢
    rw [g1]
    exact ⟨g2, g4⟩
