theorem scheme_ok2 {s S : aS} {y y1 : aG} {s1 : aS} {c l n t : Nat} (hI : Inv s y c) (hz : Cx y c l c) (hI1 : Inv s1 y1 (sZ y)) (hE : Ex s (yop y c) s1 y1) (x8 : S.1 8 n = t) (x9 : S.1 9 n = l + 1) (ht : Fi S y1 t (l + 1) (sZ y)) (hp : ps y1 t = 1) : Pb S y1 c l n := by
  obtain ⟨o1, o2, o3, o4, o5, o6⟩ := i_open hI
  have hG := hI.1
  have eZ : sZ (yop y c) = sZ y + 1 := by simp [sZ, yop, h1, h2, mst]
  have hlen : (pth y c).length = l + 1 := (pth_split hG.2.2.1.1 hz).2.2
  have pz : pth y1 (sZ y) = pth y c ++ [sZ y] := (hE.2.2.2.2.1 (sZ y) (by omega)).trans o3
  have pc : pth y1 c = pth y c := (hE.2.2.2.2.1 c (by have := hG.2.2.1.2.1; omega)).trans (o4 c hG.2.2.1.2.1)
  refine ⟨fun h => by omega, fun m hm => ?_⟩
  have hml : m = l := by omega
  subst hml
  rw [x8]
  refine ⟨Nat.le_refl _, hp, sZ y, hI1.1.2.2.1.1, hI1.1.2.2.1.2.1, ?_, ht, fun d hd => ?_, fun d x hd _ hx => ?_⟩
  · unfold Cx
    rw [pz, List.getElem?_append_right (by omega), hlen, Nat.sub_self]
    rfl
  · rw [pc, pz, List.getElem?_append_left (by omega)]
  · unfold Cx at hx
    rw [pc] at hx
    obtain ⟨h9, -⟩ := List.getElem?_eq_some_iff.mp hx
    omega
/-- REC -/
theorem rec_ok {tr : aM} {top : Nat} {rk : Nat → Nat} {Vd : Nat → Prop} {f : aS → Nat → Nat → aS × Nat} (hf : TyF tr top rk Vd f) (hfs : TyS f) (hr : ∀ c, tr 3 c ≠ 0 → rk (tr 3 c - 1) < rk c) {s : aS} {y : aG} {c l n p q : Nat} (h0 : sto s = 0) (hW : W2 s) (hI : Inv s y c) (hz : Cx y c l c) (hC : ∀ j, Cv (Pb s y c l) tr top j n) (hp : tr 3 p = n + 1) (hq : tr 3 q = n + 1) (hvp : Vd p) (hvq : Vd q) {s1 s2 : aS × Nat} {s3 : aS}
    (e1 : s1 = fresh s n (l + 1)) (e2 : s2 = f (gives s1.1 n s1.2 0) p (l + 1)) (e3 : s3 = puts s2.1 n s2.2 s1.2) : TyG rk s y c l n (f (w1 s3 9 n (l + 1)) q l) := by
  refine ⟨fun h => absurd h0 h, ?_⟩
  obtain ⟨o1, o2, o3, o4, o5, o6⟩ := i_open hI
  have hz0 := opn_cx hI hz
  have hG := hI.1
  have eZ : sZ (yop y c) = sZ y + 1 := by simp [sZ, yop, h1, h2, mst]
  have hrp : rk n < rk p := by
    have := hr p (by omega)
    have e : tr 3 p - 1 = n := by omega
    rw [e] at this
    exact this
  obtain ⟨b0, y1, b1, b2, b3, ⟨b4, b5⟩, b6⟩ := fresh_ok (n := n) o1 hz0
  rw [← e1] at b0 b1 b2 b3 b4 b5 b6
  obtain ⟨i1, i2⟩ := i_give (n := n) (t := s1.2) (sc := 0) b1
  have hz1 := hz0.ext o1.1 b2
  have hfr : ∀ u, rk u < rk n → (gives s1.1 n s1.2 0).1 8 u = s.1 8 u ∧ (gives s1.1 n s1.2 0).1 9 u = s.1 9 u := fun u hu => by
    have hne : u ≠ n := fun h => by
      rw [h] at hu
      omega
    obtain ⟨x1, x2⟩ := gives_at s1.1 n s1.2 0 u
    rw [if_neg hne] at x1 x2
    exact ⟨x1.trans (by rw [b4]), x2.trans (by rw [b5])⟩
  have hE1 := b2.tr i2
  obtain ⟨g8, g9⟩ := gives_at s1.1 n s1.2 0 n
  rw [if_pos rfl] at g8 g9
  obtain ⟨y2, d0, d1, d2, d3, d4, d5⟩ : ∃ y2, (sto s1.1 ≠ 0 → sto s2.1 ≠ 0) ∧ Inv s2.1 y2 (sZ y) ∧ Ex (gives s1.1 n s1.2 0) y1 s2.1 y2 ∧ Kt (gives s1.1 n s1.2 0) y1 s2.1 y2 ∧ (∀ u, rk u ≤ rk n → s2.1.1 8 u = (gives s1.1 n s1.2 0).1 8 u ∧ s2.1.1 9 u = (gives s1.1 n s1.2 0).1 9 u) ∧ (sto s2.1 = 0 → Fi s2.1 y2 s2.2 (l + 1) (sZ y) ∧ ps y2 s2.2 = 1) := by
    by_cases hs1 : sto s1.1 ≠ 0
    · have e4 : s2.1 = gives s1.1 n s1.2 0 := by
        rw [e2]
        exact hfs _ _ _ hs1
      rw [e4]
      exact ⟨y1, fun _ => hs1, i1, Ex.rf, Kt.rf, fun _ _ => ⟨rfl, rfl⟩, fun h => absurd h hs1⟩
    · obtain ⟨c1, c2, c3, c4, c5, c6, c7, c8⟩ := b6 (by omega)
      have hPb : Pb (gives s1.1 n s1.2 0) y1 (sZ y) (l + 1) n := by
        refine ⟨fun _ => ?_, fun m hm => by omega⟩
        rw [g8, c1]
        exact ⟨c2.ext b1.1.2.2.1.2.1 i2, c3, by rw [c7]; exact c5⟩
      obtain ⟨a0, y2, a1, a2, a3, a4, a5⟩ := hf (gives s1.1 n s1.2 0) y1 (sZ y) p (l + 1) hvp ((hW.ext o1.1 b2).ext b1.1 i2) i1 hz1 (cv_child hr hC hp (fun _ => hPb) (fun u hu hP => (hP.opn hI hz).ext o1.1 hE1 (hfr u hu).1 (hfr u hu).2))
      rw [← e2] at a0 a1 a2 a3 a4 a5
      exact ⟨y2, fun h => absurd h hs1, a1, a2, a3, fun u hu => a4 u (by omega), a5⟩
  have hE2 := hE1.tr d2
  have hz2 := hz0.ext o1.1 hE2
  have hE12 := i2.tr d2
  obtain ⟨m0, y3, m1, m2, ⟨m3, m4⟩, m5, ⟨m6, m7⟩⟩ := puts_ok (n := n) (a := s2.2) (b := s1.2) (v := 1) d1 hz2 (by omega) (fun hs => by
    have hs1 : sto s1.1 = 0 := Classical.byContradiction (fun h => d0 h hs)
    obtain ⟨c1, c2, c3, c4, c5, c6, c7, c8⟩ := b6 hs1
    obtain ⟨t1, t2⟩ := d5 hs
    have c2' := c2.ext b1.1.2.2.1.2.1 hE12
    rw [c1]
    refine ⟨t1, c2', t2, (nw_of d1 c2'.1 (((hE12.2.1 _ c2.1).1).trans c3)).2.1, Or.inl (hE12.2.2.2.2.2 _ c5), fun _ => rfl, fun _ => ?_⟩
    have := d3.2 (nT s) c2.1
    omega)
  rw [← e3] at m0 m1 m2 m6 m7
  have hE3 := hE2.tr m2
  obtain ⟨k1, k2⟩ := close_ok hI hz m1 hE3
  obtain ⟨j1, j2⟩ := i_sch (n := n) (v := l + 1) k1
  have hE4 := k2.tr j2
  have w9 : ∀ u, (w1 s3 9 n (l + 1)).1 8 u = s3.1 8 u ∧ (w1 s3 9 n (l + 1)).1 9 u = (if u = n then l + 1 else s3.1 9 u) := fun u => ⟨by simp [w1, mst], by simp [w1, mst]⟩
  have hfr4 : ∀ u, rk u < rk n → (w1 s3 9 n (l + 1)).1 8 u = s.1 8 u ∧ (w1 s3 9 n (l + 1)).1 9 u = s.1 9 u := fun u hu => by
    have hne : u ≠ n := fun h => by
      rw [h] at hu
      omega
    obtain ⟨x1, x2⟩ := w9 u
    rw [if_neg hne] at x2
    obtain ⟨x3, x4⟩ := d4 u (by omega)
    obtain ⟨x5, x6⟩ := hfr u hu
    exact ⟨x1.trans ((by rw [m6] : s3.1 8 u = s2.1.1 8 u).trans (x3.trans x5)), x2.trans ((by rw [m7] : s3.1 9 u = s2.1.1 9 u).trans (x4.trans x6))⟩
  have hkt : Kt s y (w1 s3 9 n (l + 1)) y3 := by
    have hk1 := (kt_yop (s := s) (y := y) (c := c)).tr b3 o2
    have hk2 := Kt.tr (s1 := gives s1.1 n s1.2 0) hk1 d3 (o2.tr hE1)
    refine ⟨by have := hk2.1; omega, fun t ht => ?_⟩
    have h5 := m5 t (by have := (o2.tr hE2).1.1; omega)
    have hne : ¬ (sto s2.1 = 0 ∧ 1 = 1 ∧ t = s1.2) := fun ⟨h6, _, h7⟩ => by
      have hs1 : sto s1.1 = 0 := Classical.byContradiction (fun h => d0 h h6)
      have := (b6 hs1).1
      omega
    rw [if_neg hne] at h5
    have := hk2.2 t ht
    omega
  by_cases hs3 : sto s3 ≠ 0
  · have e4 : (f (w1 s3 9 n (l + 1)) q l).1 = w1 s3 9 n (l + 1) := hfs _ _ _ hs3
    rw [e4]
    exact ⟨y3, j1, hE4, hkt, hfr4, fun h => absurd h hs3⟩
  have hs2 : sto s2.1 = 0 := Classical.byContradiction (fun h => m0 h (by omega))
  have hs1 : sto s1.1 = 0 := Classical.byContradiction (fun h => d0 h hs2)
  obtain ⟨c1, c2, c3, c4, c5, c6, c7, c8⟩ := b6 hs1
  have hE13 := hE12.tr m2
  have c2' := c2.ext b1.1.2.2.1.2.1 hE13
  have hPb : Pb (w1 s3 9 n (l + 1)) y3 c l n := scheme_ok2 (t := nT s) hI hz m1 hE3 (by
      rw [(w9 n).1, m6, (d4 n (Nat.le_refl _)).1, g8, c1]) (by rw [(w9 n).2, if_pos rfl]) (c2'.ext m1.1.2.2.1.2.1 j2) (nw_of m1 c2'.1 (((hE13.2.1 _ c2.1).1).trans c3)).1
  obtain ⟨⟨r0, y4, r1, r2, r3, r4, r5⟩, r6, r7⟩ := part_ok hf hr hW hI hz hC j1 hE4 hfr4 hq hvq (fun _ => hPb)
  exact ⟨y4, r1, hE4.tr r2, Kt.tr (s1 := w1 s3 9 n (l + 1)) hkt r3 hE4, fun u hu => by
    obtain ⟨x1, x2⟩ := r4 u (by omega)
    obtain ⟨x3, x4⟩ := hfr4 u hu
    exact ⟨x1.trans x3, x2.trans x4⟩, r5⟩
