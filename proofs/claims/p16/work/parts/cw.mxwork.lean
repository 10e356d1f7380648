theorem xm_does_all : ∀ fu : Nat, xmDoesAt fu := by
  intro fu
  induction fu with
  | zero =>
    intro l G hDD o F tr N dp mk al vs φ ws n e9 hT hmk hTm hR hWf h0 h67 hz hn he hel hd hfu sz
    exact xm_does_0 l G hDD o F tr N dp mk al vs φ ws n e9 hT hmk hTm hR hWf h0 h67 hz hn he hel hd hfu sz
  | succ fu ih =>
    intro l G hDD o F tr N dp mk al vs φ ws n e9 hT hmk hTm hR hWf h0 h67 hz hn he hel hd hfu sz
    refine xm_does_s l G hDD o F fu tr N dp mk al vs φ ws n e9 ?_ hT hmk hTm hR hWf h0 h67 hz hn he hel hd hfu sz
    intro l G hDD o F tr N dp mk al vs φ ws n e9 hT hmk hTm hR hWf h0 h67 hz hn he hel hd hfu sz
    refine xm_doing l G hDD o F fu tr N dp mk al vs φ ws n e9 ih ?_ hT hmk hTm hR hWf h0 h67 hz hn he hel hd hfu sz
    intro l G hDD o F tr N dp mk al vs φ ws n e9 hT hmk hTm hR hWf h0 h67 hz hn he hel hd hfu hk sz
    exact xm_seen l G hDD o F fu tr N dp mk al vs φ ws n e9 ih hT hmk hTm hR hWf h0 h67 hz hn he hel hd hfu hk sz
theorem MR9.ze {tr : aM} {al : Nat} {o : Nat → Int32} {F : Nat → Nat → Int32} (h1 : o 51 = 0 ∧ o 56 = 0 ∧ o 62 = 0 ∧ o 63 = nI al) : MR9 tr al 0 o F wm0 (fun _ => 0) :=
  ⟨h1, fun v h => absurd h (Nat.not_lt_zero _), fun v h => absurd h (Nat.not_lt_zero _)⟩
def MO9 (r : wmS × Nat) (v : Int32) (u : mS) : Prop := v = nI (hlt r.1) ∧ u.1 61 = nI (hlt r.1) ∧ u.1 62 = nI (bgn r.1) ∧ u.1 65 = wmpl9 r
theorem YQ.mo {tr : aM} {al vs c : Nat} {φ : Nat → Nat} {o o2 : Nat → Int32} {F F2 : Nat → Nat → Int32} {s : wmS} {r : wmS × Nat} {rv x : Int32} (h : YQ tr al vs c φ o F s r rv (o2, F2)) (h61 : o 61 = 0) (h65 : o 65 = -9) : MO9 r (o2 61) (upd o2 66 x, F2) := by
  rcases h with ⟨b1, b2, b3, b4, b5, b6, b7⟩ | ⟨z, vs1, φ1, h1, h2⟩
  · exact ⟨b3, b3, b5, b4.trans (if_neg b1).symm⟩
  · have e61 : o2 61 = nI (hlt r.1) := by rw [z]; exact h1.2.2.2.1.1.trans h61
    exact ⟨e61, e61, h1.1.1.2.2.1, (h1.2.2.2.1.2.2.1.trans h65).trans (if_pos z).symm⟩
theorem YQ.wv {tr : aM} {N al c : Nat} {dp : Nat → Nat} {φ : Nat → Nat} {o o2 : Nat → Int32} {F F2 : Nat → Nat → Int32} {s : wmS} {r : wmS × Nat} {rv : Int32} (h : YQ tr al 0 c φ o F s r rv (o2, F2)) (hW : wmW tr N dp r.1) (hN : N ≤ 120) (h6 : ∀ m, m < N → tr 2 m ≤ 6) (hv : hlt r.1 = 0 → r.2 < wnv r.1) (hb : bgn s = 0) (hb2 : bgn r.1 ≤ 300) (hc : c = 0) (hh : hlt r.1 ≤ 2) : WV (upd o2 66 rv) F2 := by
  intro h0
  rcases h with ⟨b1, b2, b3, b4, b5, b6, b7⟩ | ⟨z, vs1, φ1, h1, h2⟩
  · exact absurd ((nI_eq (b := 0) (by omega) (by omega)).mp (b3.symm.trans h0)) b1
  · obtain ⟨m1, m2, m3⟩ := h1.1
    have hs := h1.2.1.2
    refine ⟨fun v => ∃ w, w < wnv r.1 ∧ v = φ1 w, ⟨φ1 r.2, ⟨r.2, hv z, rfl⟩, h2⟩, fun v ⟨w, hw, e⟩ => ?_⟩
    subst e
    obtain ⟨c1, c2, c3, c4, c5⟩ := m2 w hw
    have hw3 := (hW.1 w hw).1
    refine ⟨by omega, ?_⟩
    unfold VT
    rcases Nat.lt_or_ge (vso r.1 w) 3 with q | q
    · have hq : vso r.1 w = 0 ∨ vso r.1 w = 1 ∨ vso r.1 w = 2 := by omega
      rcases hq with q | q | q
      · exact Or.inl (c2.trans (by rw [q]; rfl))
      · exact Or.inr (Or.inl (c2.trans (by rw [q]; rfl)))
      · exact Or.inr (Or.inr (Or.inl (c2.trans (by rw [q]; rfl))))
    · have q3 : vso r.1 w = 3 := by omega
      obtain ⟨d1, d2, d3⟩ := c5 q3
      obtain ⟨f1, f2, f3, f4⟩ := (hW.1 w hw).2.2 q3
      refine Or.inr (Or.inr (Or.inr ⟨c2.trans (by rw [q3]; rfl), vno r.1 w, tr 2 (vno r.1 w), by omega, h6 _ f1, d1, d2, fun k hk => ?_⟩))
      exact ⟨_, ⟨_, f4 _ (gD_mem (by omega)), rfl⟩, d3 k (by omega)⟩

theorem YQ.kq {tr : aM} {al vs c : Nat} {φ : Nat → Nat} {o : Nat → Int32} {F : Nat → Nat → Int32} {s : wmS} {r : wmS × Nat} {rv : Int32} {u : mS} (h : YQ tr al vs c φ o F s r rv u) : Kq LWa o F u := by
  rcases h with ⟨b1, b2, b3, b4, b5, b6, b7⟩ | ⟨z, vs1, φ1, h1, h2⟩
  · exact b7.mono (by decide)
  · exact h1.2.2.2.2.1.mono (by decide)
