/-- SUM, LESS -/
theorem wholes_ok {tr : aM} {top : Nat} {rk : Nat → Nat} {Vd : Nat → Prop} {f : aS → Nat → Nat → aS × Nat} (hf : TyF tr top rk Vd f) (hr : ∀ c, tr 3 c ≠ 0 → rk (tr 3 c - 1) < rk c) {s : aS} {y : aG} {c l n p q w : Nat} (h0 : sto s = 0) (hW : W2 s) (hI : Inv s y c) (hz : Cx y c l c) (hC : ∀ j, Cv (Pb s y c l) tr top j n) (hp : tr 3 p = n + 1) (hq : tr 3 q = n + 1) (hvp : Vd p) (hvq : Vd q) (hb1 : ¬ covers tr n p) (hb2 : ¬ covers tr n q) (hw : w ≤ 1) {s1 s3 : aS × Nat} {s2 : aS}
    (e1 : s1 = f s p l) (e2 : s2 = puts s1.1 n s1.2 0) (e3 : s3 = f s2 q l) : TyG rk s y c l n (puts s3.1 n s3.2 0, w) := by
  refine ⟨fun h => absurd h0 h, ?_⟩
  obtain ⟨⟨a0, y1, a1, a2, a3, a4, a5⟩, a6, a7⟩ := part_ok hf hr hW hI hz hC hI Ex.rf (fun u _ => ⟨rfl, rfl⟩) hp hvp (fun h => absurd h hb1)
  rw [← e1] at a0 a1 a2 a3 a4 a5
  obtain ⟨b0, y2, b1, b2, b3, b4, b5⟩ := ask_ok (n := n) (t := s1.2) (w := 0) a1 (hz.ext hI.1 a2) (hW.ext hI.1 a2) (by omega) a5
  rw [← e2] at b0 b1 b2 b3 b4 b5
  have hE2 := a2.tr b2
  have hfr : ∀ u, rk u < rk n → s2.1 8 u = s.1 8 u ∧ s2.1 9 u = s.1 9 u := fun u hu => by
    obtain ⟨x1, x2⟩ := a4 u (by omega)
    exact ⟨(by rw [b4] : s2.1 8 u = s1.1.1 8 u).trans x1, (by rw [b5] : s2.1 9 u = s1.1.1 9 u).trans x2⟩
  obtain ⟨⟨d0, y3, d1, d2, d3, d4, d5⟩, d6, d7⟩ := part_ok hf hr hW hI hz hC b1 hE2 hfr hq hvq (fun h => absurd h hb2)
  rw [← e3] at d0 d1 d2 d3 d4 d5
  have hE3 := hE2.tr d2
  obtain ⟨g0, y4, g1, g2, g3, g4, g5⟩ := ask_ok (n := n) (t := s3.2) (w := 0) d1 (hz.ext hI.1 hE3) (hW.ext hI.1 hE3) (by omega) d5
  have hE4 := hE3.tr g2
  obtain ⟨w1', w2', w3, w4⟩ := pl_ok (l := l) g1 hw (hW.ext hI.1 hE4)
  refine ⟨y4, g1, hE4, ((a3.tr b3 a2).tr d3 hE2).tr g3 hE3, fun u hu => ?_, fun _ => ⟨w1', w2'⟩⟩
  obtain ⟨x1, x2⟩ := d4 u (by omega)
  obtain ⟨x3, x4⟩ := hfr u hu
  refine ⟨?_, ?_⟩
  · show (puts s3.1 n s3.2 0).1 8 u = _
    rw [g4]
    exact x1.trans x3
  · show (puts s3.1 n s3.2 0).1 9 u = _
    rw [g5]
    exact x2.trans x4
/-- FIELD -/
theorem field_ok {tr : aM} {top : Nat} {rk : Nat → Nat} {Vd : Nat → Prop} {f : aS → Nat → Nat → aS × Nat} (hf : TyF tr top rk Vd f) (hr : ∀ c, tr 3 c ≠ 0 → rk (tr 3 c - 1) < rk c) {s : aS} {y : aG} {c l n p x : Nat} (h0 : sto s = 0) (hW : W2 s) (hI : Inv s y c) (hz : Cx y c l c) (hC : ∀ j, Cv (Pb s y c l) tr top j n) (hp : tr 3 p = n + 1) (hvp : Vd p) (hb1 : ¬ covers tr n p) {s2 s3 s4 : aS × Nat}
    (e2 : s2 = f s p l) (e3 : s3 = fresh s2.1 n l) (e4 : s4 = mkR s3.1 [x] [s3.2]) : TyG rk s y c l n (puts s4.1 n s2.2 s4.2, s3.2) := by
  refine ⟨fun h => absurd h0 h, ?_⟩
  obtain ⟨⟨a0, y2, a1, a2, a3, a4', a6⟩, a7, a8⟩ := part_ok hf hr hW hI hz hC hI Ex.rf (fun u _ => ⟨rfl, rfl⟩) hp hvp (fun h => absurd h hb1)
  rw [← e2] at a0 a1 a2 a3 a4' a6
  have a4 := hz.ext hI.1 a2
  obtain ⟨b0, y3, b1, b2, b3, ⟨b4, b5⟩, b6⟩ := fresh_ok (n := n) a1 a4
  rw [← e3] at b0 b1 b2 b3 b4 b5 b6
  have hz3 := a4.ext a1.1 b2
  have hmk := mkR_ok (s := s3.1) (ls := [x]) (ps' := [s3.2]) (r := 0) b1 hz3 (by omega) (fun hs => by
    obtain ⟨c1, c2, c3, c4, c5, c6, c7, c8⟩ := b6 hs
    refine ⟨fun p hp => ?_, Or.inl ?_, rfl⟩
    · rw [List.mem_singleton.mp hp, c1]
      exact c2
    · show max (lev s3.1 s3.2) 0 = l
      rw [c1, c4]
      omega)
  rw [← e4] at hmk
  obtain ⟨k0, y4, k1, k2, ⟨k3, k4, k5, k6⟩, ⟨k7, k8⟩, k9⟩ := hmk
  have hE4 := b2.tr k2
  have hz4 := a4.ext a1.1 hE4
  have hst : sto s3.1 = 0 → sto s2.1 = 0 := fun hx => Classical.byContradiction (fun h => b0 h hx)
  obtain ⟨m0, y5, m1, m2, ⟨m3, m4⟩, m5, ⟨m6, m7⟩⟩ := puts_ok (n := n) (a := s2.2) (b := s4.2) (v := 0) k1 hz4 (by omega) (fun hs => by
    obtain ⟨n1, n2, n3, n4, n5, n6⟩ := k9 hs
    obtain ⟨c1, c2, c3, c4, c5, c6, c7, c8⟩ := b6 n1
    obtain ⟨d1, d2⟩ := a6 (hst n1)
    rw [n2]
    refine ⟨d1.ext a1.1.2.2.1.2.1 hE4, n3, by rw [(hE4.2.2.2.1 _ d1.1).2.2.2.2.1]; exact d2, ?_, Or.inl (by rw [k6]; exact c5), fun h => by omega, fun h => by omega⟩
    refine n6 rfl (Nat.le_refl _) (fun p hp => ?_)
    rw [List.mem_singleton.mp hp, c1]
    exact (nw_of b1 c2.1 c3).2.1)
  have hE5 := hE4.tr m2
  refine ⟨y5, m1, a2.tr hE5, ⟨?_, fun t ht => ?_⟩, fun u hu => ?_, fun hs => ?_⟩
  · have := a3.1
    have := b3.1
    omega
  · have h5 := m5 t (by have := (a2.tr hE4).1.1; omega)
    rw [if_neg (by omega), k5] at h5
    have h6 := b3.2 t (by have := a2.1.1; omega)
    have h7 := a3.2 t ht
    omega
  · obtain ⟨x1, x2⟩ := a4' u (by omega)
    refine ⟨?_, ?_⟩
    · show (puts s4.1 n s2.2 s4.2).1 8 u = _
      rw [m6, k7, b4]
      exact x1
    · show (puts s4.1 n s2.2 s4.2).1 9 u = _
      rw [m7, k8, b5]
      exact x2
  · have hs4 : sto s4.1 = 0 := Classical.byContradiction (fun h => m0 h hs)
    obtain ⟨n1, -⟩ := k9 hs4
    obtain ⟨c1, c2, c3, c4, c5, c6, c7, c8⟩ := b6 n1
    have hE35 := k2.tr m2
    show Fi (puts s4.1 n s2.2 s4.2) y5 s3.2 l c ∧ ps y5 s3.2 = 1
    rw [c1]
    refine ⟨c2.ext b1.1.2.2.1.2.1 hE35, ?_⟩
    rw [(hE35.2.2.2.1 _ c2.1).2.2.2.2.1]
    exact (nw_of b1 c2.1 c3).1
