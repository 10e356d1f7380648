/-- the parts of a RECORD, in order -/
theorem tys_ok {tr : aM} {top : Nat} {rk : Nat → Nat} {Vd : Nat → Prop} {f : aS → Nat → Nat → aS × Nat} (hf : TyF tr top rk Vd f) (hr : ∀ c, tr 3 c ≠ 0 → rk (tr 3 c - 1) < rk c) {s : aS} {y : aG} {c l n : Nat} (hW : W2 s) (hI : Inv s y c) (hz : Cx y c l c) (hC : ∀ j, Cv (Pb s y c l) tr top j n) :
    ∀ (xs : List Nat) (s1 : aS) (y1 : aG), Inv s1 y1 c → Ex s y s1 y1 → (∀ u, rk u ≤ rk n → s1.1 8 u = s.1 8 u ∧ s1.1 9 u = s.1 9 u) → (∀ p ∈ xs, tr 3 p = n + 1 ∧ Vd p ∧ ¬ covers tr n p) →
      (sto s1 ≠ 0 → sto (tys (fun s x => f s x l) s1 xs).1 ≠ 0) ∧ ∃ y2, Inv (tys (fun s x => f s x l) s1 xs).1 y2 c ∧ Ex s1 y1 (tys (fun s x => f s x l) s1 xs).1 y2 ∧ Kt s1 y1 (tys (fun s x => f s x l) s1 xs).1 y2 ∧ (∀ u, rk u ≤ rk n → (tys (fun s x => f s x l) s1 xs).1.1 8 u = s1.1 8 u ∧ (tys (fun s x => f s x l) s1 xs).1.1 9 u = s1.1 9 u) ∧
        (sto (tys (fun s x => f s x l) s1 xs).1 = 0 → (tys (fun s x => f s x l) s1 xs).2.length = xs.length ∧ ∀ p ∈ (tys (fun s x => f s x l) s1 xs).2, Fi (tys (fun s x => f s x l) s1 xs).1 y2 p l c ∧ ps y2 p = 1)
  | [], s1, y1, hI1, hE, hg, hx => by
    refine ⟨fun h => h, y1, hI1, Ex.rf, ⟨Nat.le_refl _, fun _ _ => Nat.le_refl _⟩, fun _ _ => ⟨rfl, rfl⟩, fun _ => ⟨rfl, fun p hp => ?_⟩⟩
    exact absurd hp (List.not_mem_nil)
  | x :: xs, s1, y1, hI1, hE, hg, hx => by
    by_cases h0 : sto s1 ≠ 0
    · have e : tys (fun s x => f s x l) s1 (x :: xs) = (s1, []) := by
        unfold tys
        rw [if_pos h0]
      rw [e]
      exact ⟨fun h => h, y1, hI1, Ex.rf, ⟨Nat.le_refl _, fun _ _ => Nat.le_refl _⟩, fun _ _ => ⟨rfl, rfl⟩, fun h => absurd h h0⟩
    · have e : tys (fun s x => f s x l) s1 (x :: xs) = ((tys (fun s x => f s x l) (f s1 x l).1 xs).1, (f s1 x l).2 :: (tys (fun s x => f s x l) (f s1 x l).1 xs).2) := by
        conv => lhs; unfold tys
        rw [if_neg h0]
      rw [e]
      obtain ⟨hx1, hx2, hx3⟩ := hx x (List.mem_cons_self)
      obtain ⟨⟨a0, y2, a1, a2, a3, a4, a5⟩, a6, a7⟩ := part_ok hf hr hW hI hz hC hI1 hE (fun u hu => hg u (by omega)) hx1 hx2 (fun h => absurd h hx3)
      obtain ⟨b0, y3, b1, b2, b3, b4, b5⟩ := tys_ok hf hr hW hI hz hC xs (f s1 x l).1 y2 a1 (hE.tr a2) (fun u hu => by
        obtain ⟨x1, x2⟩ := a4 u (by omega)
        obtain ⟨x3, x4⟩ := hg u hu
        exact ⟨x1.trans x3, x2.trans x4⟩) (fun p hp => hx p (List.mem_cons_of_mem _ hp))
      refine ⟨fun h => absurd h h0, y3, b1, a2.tr b2, a3.tr b3 a2, fun u hu => ?_, fun hs => ?_⟩
      · obtain ⟨x1, x2⟩ := a4 u (by omega)
        obtain ⟨x3, x4⟩ := b4 u hu
        exact ⟨x3.trans x1, x4.trans x2⟩
      · have h1 : sto (f s1 x l).1 = 0 := Classical.byContradiction (fun h => b0 h hs)
        obtain ⟨e1, e2⟩ := a5 h1
        obtain ⟨g1, g2⟩ := b5 hs
        refine ⟨congrArg (· + 1) g1, fun p hp => ?_⟩
        rcases List.mem_cons.1 hp with h | h
        · rw [h]
          exact ⟨e1.ext a1.1.2.2.1.2.1 b2, by rw [(b2.2.2.2.1 _ e1.1).2.2.2.2.1]; exact e2⟩
        · exact g2 p h
/-- RECORD -/
theorem rec2_ok {tr : aM} {top : Nat} {rk : Nat → Nat} {Vd : Nat → Prop} {f : aS → Nat → Nat → aS × Nat} (hf : TyF tr top rk Vd f) (hr : ∀ c, tr 3 c ≠ 0 → rk (tr 3 c - 1) < rk c) {s : aS} {y : aG} {c l n : Nat} (h0 : sto s = 0) (hW : W2 s) (hI : Inv s y c) (hz : Cx y c l c) (hC : ∀ j, Cv (Pb s y c l) tr top j n) {xs ls : List Nat} (hx : ∀ p ∈ xs, tr 3 p = n + 1 ∧ Vd p ∧ ¬ covers tr n p) (hl : ls.length = xs.length) {r : aS × List Nat} (e1 : r = tys (fun s x => f s x l) s xs) :
    TyG rk s y c l n (if sto r.1 ≠ 0 then (r.1, 0) else mkR (w1 r.1 0 5 n) ls r.2) := by
  refine ⟨fun h => absurd h0 h, ?_⟩
  obtain ⟨-, y1, a1, a2, a3, a4, a5⟩ := tys_ok hf hr hW hI hz hC xs s y hI Ex.rf (fun _ _ => ⟨rfl, rfl⟩) hx
  rw [← e1] at a1 a2 a3 a4 a5
  by_cases hs : sto r.1 ≠ 0
  · rw [if_pos hs]
    exact ⟨y1, a1, a2, a3, fun u hu => a4 u (by omega), fun h => absurd h hs⟩
  rw [if_neg hs]
  obtain ⟨g1, g2⟩ := a5 (by omega)
  obtain ⟨k1, k2⟩ := i_askn (n := n) a1
  have hE2 := a2.tr k2
  have hz2 := hz.ext hI.1 hE2
  obtain ⟨q0, y4, q1, q2, ⟨q3, q4, q5, q6⟩, ⟨q7, q8⟩, q9⟩ := mkR_ok (s := w1 r.1 0 5 n) (r := 1) (ls := ls) (ps' := r.2) k1 hz2 (by omega) (fun _ => ⟨fun p hp => (g2 p hp).1.ext a1.1.2.2.1.2.1 k2, Or.inr rfl, by omega⟩)
  refine ⟨y4, q1, hE2.tr q2, ⟨by have := a3.1; omega, fun t ht => ?_⟩, fun u hu => ?_, fun hs' => ?_⟩
  · rw [q5]
    exact a3.2 t ht
  · obtain ⟨x1, x2⟩ := a4 u (by omega)
    rw [q7, q8]
    exact ⟨x1, x2⟩
  · obtain ⟨r1, r2, r3, r4, r5, r6⟩ := q9 hs'
    rw [r2]
    exact ⟨r3, r5 (fun p hp => (g2 p hp).2)⟩
