/-- what TYPING a node is to give -/
def TyG (rk : Nat → Nat) (s : aS) (y : aG) (c l n : Nat) (r : aS × Nat) : Prop :=
  (sto s ≠ 0 → sto r.1 ≠ 0) ∧ ∃ y', Inv r.1 y' c ∧ Ex s y r.1 y' ∧ Kt s y r.1 y' ∧ (∀ u, rk u < rk n → r.1.1 8 u = s.1 8 u ∧ r.1.1 9 u = s.1 9 u) ∧ (sto r.1 = 0 → Fi r.1 y' r.2 l c ∧ ps y' r.2 = 1)
def W2 (s : aS) : Prop := srt s 0 = 0 ∧ srt s 1 = 0
theorem W2.ext {s s' : aS} {y y' : aG} {c : Nat} (h : W2 s) (hG : Glo s y c) (hE : Ex s y s' y') : W2 s' := by
  have := hG.1.1
  exact ⟨(hE.2.1 0 (by omega)).1.trans h.1, (hE.2.1 1 (by omega)).1.trans h.2⟩
def TyF (tr : aM) (top : Nat) (rk : Nat → Nat) (Vd : Nat → Prop) (f : aS → Nat → Nat → aS × Nat) : Prop :=
  ∀ (s : aS) (y : aG) (c n l : Nat), Vd n → W2 s → Inv s y c → Cx y c l c → (∀ j, Cv (Pb s y c l) tr top j n) → TyG rk s y c l n (f s n l)
theorem pl_ok {s : aS} {y : aG} {c l t : Nat} (hI : Inv s y c) (ht : t ≤ 1) (hW : W2 s) : Fi s y t l c ∧ ps y t = 1 ∧ ng y t = 1 ∧ srt s t = 0 := by
  have hn : t < nT s := by have := hI.1.1.1; omega
  have h0 : srt s t = 0 := by
    rcases (by omega : t = 0 ∨ t = 1) with h | h <;> subst h
    · exact hW.1
    · exact hW.2
  obtain ⟨-, hh | hh | hh | hh⟩ := (hI.2 t hn).1
  · obtain ⟨a1, a2, a3, a4, a5, a6, a7, a8⟩ := hh
    exact ⟨⟨hn, by omega, Or.inl a4, fun _ => ⟨a5, Or.inl a4⟩⟩, a7, a8, h0⟩
  · have := hh.1
    omega
  · have := hh.1
    omega
  · have := hh.1
    omega
/-- a part at the same level, behind what was done -/
theorem part_ok {tr : aM} {top : Nat} {rk : Nat → Nat} {Vd : Nat → Prop} {f : aS → Nat → Nat → aS × Nat} (hf : TyF tr top rk Vd f) (hr : ∀ c, tr 3 c ≠ 0 → rk (tr 3 c - 1) < rk c) {s s1 : aS} {y y1 : aG} {c l n p : Nat} (hW : W2 s) (hI : Inv s y c) (hz : Cx y c l c) (hC : ∀ j, Cv (Pb s y c l) tr top j n) (hI1 : Inv s1 y1 c) (hE : Ex s y s1 y1) (hg : ∀ u, rk u < rk n → s1.1 8 u = s.1 8 u ∧ s1.1 9 u = s.1 9 u) (hp : tr 3 p = n + 1) (hv : Vd p) (hb : covers tr n p → Pb s1 y1 c l n) :
    TyG rk s1 y1 c l p (f s1 p l) ∧ rk n < rk p ∧ Cx y1 c l c := by
  have hG := hI.1
  have hz1 : Cx y1 c l c := by
    unfold Cx
    rw [hE.2.2.2.2.1 c hG.2.2.1.2.1]
    exact hz
  refine ⟨hf s1 y1 c p l hv (hW.ext hG hE) hI1 hz1 (cv_child hr hC hp hb (fun u hu hP => hP.ext hG hE (hg u hu).1 (hg u hu).2)), ?_, hz1⟩
  have := hr p (by omega)
  have e : tr 3 p - 1 = n := by omega
  rw [e] at this
  exact this
/-- of two parts, in order -/
theorem two_ok {tr : aM} {top : Nat} {rk : Nat → Nat} {Vd : Nat → Prop} {f : aS → Nat → Nat → aS × Nat} (hf : TyF tr top rk Vd f) (hr : ∀ c, tr 3 c ≠ 0 → rk (tr 3 c - 1) < rk c) {s : aS} {y : aG} {c l n p q : Nat} (hW : W2 s) (hI : Inv s y c) (hz : Cx y c l c) (hC : ∀ j, Cv (Pb s y c l) tr top j n) (hp : tr 3 p = n + 1) (hq : tr 3 q = n + 1) (hvp : Vd p) (hvq : Vd q) (hb1 : ¬ covers tr n p) (hb2 : ¬ covers tr n q) :
    (sto s ≠ 0 → sto (f s p l).1 ≠ 0) ∧ (sto (f s p l).1 ≠ 0 → sto (f (f s p l).1 q l).1 ≠ 0) ∧ ∃ y2, Inv (f (f s p l).1 q l).1 y2 c ∧ Ex s y (f (f s p l).1 q l).1 y2 ∧ Kt s y (f (f s p l).1 q l).1 y2 ∧ Cx y2 c l c ∧ (∀ u, rk u ≤ rk n → (f (f s p l).1 q l).1.1 8 u = s.1 8 u ∧ (f (f s p l).1 q l).1.1 9 u = s.1 9 u) ∧
      (sto (f (f s p l).1 q l).1 = 0 → (Fi (f (f s p l).1 q l).1 y2 (f s p l).2 l c ∧ ps y2 (f s p l).2 = 1) ∧ Fi (f (f s p l).1 q l).1 y2 (f (f s p l).1 q l).2 l c ∧ ps y2 (f (f s p l).1 q l).2 = 1) := by
  obtain ⟨⟨a0, y1, a1, a2, a3, a4, a5⟩, a6, a7⟩ := part_ok hf hr hW hI hz hC hI Ex.rf (fun u _ => ⟨rfl, rfl⟩) hp hvp (fun h => absurd h hb1)
  obtain ⟨⟨b0, y2, b1, b2, b3, b4, b5⟩, b6, b7⟩ := part_ok hf hr hW hI hz hC a1 a2 (fun u hu => a4 u (by omega)) hq hvq (fun h => absurd h hb2)
  have hG1 := a1.1
  have hz2 : Cx y2 c l c := by
    unfold Cx
    rw [b2.2.2.2.2.1 c hG1.2.2.1.2.1]
    exact b7
  refine ⟨a0, b0, y2, b1, a2.tr b2, a3.tr b3 a2, hz2, fun u hu => ?_, fun hs => ?_⟩
  · obtain ⟨c1, c2⟩ := a4 u (by omega)
    obtain ⟨d1, d2⟩ := b4 u (by omega)
    exact ⟨d1.trans c1, d2.trans c2⟩
  · have h1 : sto (f s p l).1 = 0 := Classical.byContradiction (fun h => b0 h hs)
    obtain ⟨e1, e2⟩ := a5 h1
    exact ⟨⟨e1.ext hG1.2.2.1.2.1 b2, by rw [(b2.2.2.2.1 _ e1.1).2.2.2.2.1]; exact e2⟩, b5 hs⟩
/-- SUM, LESS behind their first part: the second's ask of WHOLE -/
theorem ask_ok {s : aS} {y : aG} {c l n t : Nat} {w : Nat} (hI : Inv s y c) (hz : Cx y c l c) (hW : W2 s) (hw : w ≤ 1) (h : sto s = 0 → Fi s y t l c ∧ ps y t = 1) :
    (sto s ≠ 0 → sto (puts s n t w) ≠ 0) ∧ ∃ y', Inv (puts s n t w) y' c ∧ Ex s y (puts s n t w) y' ∧ Kt s y (puts s n t w) y' ∧ ((puts s n t w).1 8 = s.1 8 ∧ (puts s n t w).1 9 = s.1 9) := by
  obtain ⟨w1', w2', w3, w4⟩ := pl_ok (l := l) hI hw hW
  obtain ⟨a0, y', a1, a2, ⟨a3, a4⟩, a5, a6⟩ := puts_ok (n := n) (a := t) (b := w) (v := 0) hI hz (by omega) (fun h0 => ⟨(h h0).1, w1', (h h0).2, w3, Or.inr w4, fun h => by omega, fun h => by omega⟩)
  refine ⟨a0, y', a1, a2, ⟨by omega, fun u hu => ?_⟩, a6⟩
  have := a5 u hu
  rw [if_neg (by omega)] at this
  exact this
