theorem cv_child {P Q : Nat → Prop} {tr : aM} {top n p : Nat} {rk : Nat → Nat} (hr : ∀ c, tr 3 c ≠ 0 → rk (tr 3 c - 1) < rk c) (h : ∀ j, Cv P tr top j n) (hp : tr 3 p = n + 1) (hb : covers tr n p → Q n) (hQ : ∀ u, rk u < rk n → P u → Q u) : ∀ j, Cv Q tr top j p
  | 0 => trivial
  | j + 1 => by
    have e : tr 3 p - 1 = n := by omega
    refine Or.inr (Or.inr ⟨?_, ?_⟩)
    · rw [e]
      exact hb
    · rw [e]
      exact Cv.imp hr hQ j n (Nat.le_refl _) (h j)
/-- what TYPING a node leaves as it was -/
def Kt (s : aS) (y : aG) (s' : aS) (y' : aG) : Prop := sF y + sA y' ≤ sF y' + sA y ∧ ∀ t, t < nT s → nf y' t ≤ nf y t
theorem Kt.rf {s s' : aS} {y : aG} : Kt s y s' y := ⟨Nat.le_refl _, fun _ _ => Nat.le_refl _⟩
theorem Kt.tr {s s1 s2 : aS} {y y1 y2 : aG} (h : Kt s y s1 y1) (h' : Kt s1 y1 s2 y2) (hE : Ex s y s1 y1) : Kt s y s2 y2 :=
  ⟨by have := h.1; have := h'.1; omega, fun t ht => Nat.le_trans (h'.2 t (by have := hE.1.1; omega)) (h.2 t ht)⟩
theorem fresh_ok {s : aS} {y : aG} {c l n : Nat} (hI : Inv s y c) (hz : Cx y c l c) :
    (sto s ≠ 0 → sto (fresh s n l).1 ≠ 0) ∧ ∃ y', Inv (fresh s n l).1 y' c ∧ Ex s y (fresh s n l).1 y' ∧ Kt s y (fresh s n l).1 y' ∧ ((fresh s n l).1.1 8 = s.1 8 ∧ (fresh s n l).1.1 9 = s.1 9) ∧
      (sto (fresh s n l).1 = 0 → (fresh s n l).2 = nT s ∧ Fi (fresh s n l).1 y' (nT s) l c ∧ srt (fresh s n l).1 (nT s) = 3 ∧ lev (fresh s n l).1 (nT s) = l ∧ ih y' c = 1 ∧ nf y' (nT s) = 0 ∧ zn y' (nT s) = c ∧ sF y + sA y' + 1 ≤ sF y' + sA y) := by
  obtain ⟨i1, i2⟩ := i_askn (n := n) hI
  unfold fresh
  by_cases h0 : sto s ≠ 0
  · rw [if_pos h0]
    exact ⟨fun h => h, y, i1, i2, Kt.rf, ⟨rfl, rfl⟩, fun h => absurd h h0⟩
  rw [if_neg h0]
  refine ⟨fun h => absurd h h0, ?_⟩
  unfold mkV
  by_cases hV : nV (w1 s 0 5 n) = 150
  · rw [if_pos hV]
    obtain ⟨u1, u2⟩ := i_stops (w := 1) (p := askn (w1 s 0 5 n)) i1
    refine ⟨y, u1, i2.tr u2, Kt.rf, ?_, fun h => absurd h (sto_stops (by omega))⟩
    show (stops (w1 s 0 5 n) 1 (askn (w1 s 0 5 n))).1 8 = s.1 8 ∧ (stops (w1 s 0 5 n) 1 (askn (w1 s 0 5 n))).1 9 = s.1 9
    unfold stops
    split <;> exact ⟨rfl, rfl⟩
  rw [if_neg hV]
  by_cases hN : nT (w1 s 0 5 n) = 602
  · rw [if_pos hN]
    obtain ⟨u1, u2⟩ := i_stops (w := 1) (p := askn (w1 s 0 5 n)) i1
    refine ⟨y, u1, i2.tr u2, Kt.rf, ?_, fun h => absurd h (sto_stops (by omega))⟩
    show (stops (w1 s 0 5 n) 1 (askn (w1 s 0 5 n))).1 8 = s.1 8 ∧ (stops (w1 s 0 5 n) 1 (askn (w1 s 0 5 n))).1 9 = s.1 9
    unfold stops
    split <;> exact ⟨rfl, rfl⟩
  rw [if_neg hN]
  obtain ⟨f1, f2, f3, f4, f5, f6⟩ := i_fresh (l := l) i1 hz hN hV
  have hA : sA (yF (w1 s 0 5 n) y c) = sA y := by simp [sA, yF, yV, ynew, h1, h2, mst]
  obtain ⟨p1, p2, -⟩ := newV_at (w1 s 0 5 n) l (nT (w1 s 0 5 n))
  rw [if_pos rfl] at p1 p2
  have hzn : zn (yF (w1 s 0 5 n) y c) (nT s) = c := ((yV_at2 y (nT (w1 s 0 5 n)) c 1 1 1 0 0 0 0 0 0 (nT (w1 s 0 5 n))).1).trans (if_pos rfl)
  refine ⟨yF (w1 s 0 5 n) y c, f1, i2.tr f2, ⟨by omega, fun t ht => ?_⟩, ⟨rfl, rfl⟩, fun _ => ⟨rfl, f3, p1, p2, f4, f5, hzn, by omega⟩⟩
  have hne : t ≠ nT (w1 s 0 5 n) := by show t ≠ nT s; omega
  have : nf (yF (w1 s 0 5 n) y c) t = nf y t := by
    refine ((yV_at y (nT (w1 s 0 5 n)) c 1 1 1 0 0 0 0 0 0 t).2.2.2.1).trans ?_
    rw [if_neg hne]
  rw [this]
  exact Nat.le_refl _
theorem puts_ok {s : aS} {y : aG} {c l n a b v : Nat} (hI : Inv s y c) (hz : Cx y c l c) (hv : v ≤ 1) (h : sto s = 0 → Fi s y a l c ∧ Fi s y b l c ∧ ps y a = 1 ∧ ng y b = 1 ∧ (ih y c = 1 ∨ srt s b = 0) ∧ (srt s b = 3 → v = 1) ∧ (v = 1 → nf y b ≤ 1)) :
    (sto s ≠ 0 → sto (puts s n a b) ≠ 0) ∧ ∃ y', Inv (puts s n a b) y' c ∧ Ex s y (puts s n a b) y' ∧ (sF y' = sF y ∧ sA y' = sA y) ∧ (∀ t, t < nT s → nf y' t ≤ nf y t + (if sto s = 0 ∧ v = 1 ∧ t = b then 1 else 0)) ∧ ((puts s n a b).1 8 = s.1 8 ∧ (puts s n a b).1 9 = s.1 9) := by
  obtain ⟨i1, i2⟩ := i_askn (n := n) hI
  unfold puts
  by_cases h0 : sto s ≠ 0
  · rw [if_pos h0]
    exact ⟨fun h => h, y, i1, i2, ⟨rfl, rfl⟩, fun _ _ => Nat.le_add_right _ _, ⟨rfl, rfl⟩⟩
  rw [if_neg h0]
  obtain ⟨q1, q2, q3, q4, q5, q6, q7⟩ := h (by omega)
  have hG := hI.1.2.2.2.2.1
  obtain ⟨y', u1, u2, u3⟩ := (un_ok (c := c) 60).2 (w1 s 0 5 n) y a b l c 0 0 v i1 hz q1 q2 q3 q4 q5 ⟨fun h3 _ => Or.inr (Or.inr (q6 h3)), ⟨hG.2.1, hG.2.2.1⟩, ⟨by omega, by omega, hv⟩, q7⟩
  have h00 : sto s = 0 := by omega
  refine ⟨fun h => absurd h h0, y', u1, i2.tr u2, ⟨u3.1.1, u3.1.2.1⟩, fun t ht => ?_, ⟨u3.2.2.2.2.1, u3.2.2.2.2.2⟩⟩
  have h5 := u3.2.2.1 t ht
  have e5 : (if sto s = 0 ∧ v = 1 ∧ t = b then 1 else 0) = (if v = 1 ∧ t = b then 1 else 0) := by simp [h00]
  rw [e5]
  exact h5
/-- NAME -/
theorem name_ok {tr : aM} {top : Nat} {s : aS} {y : aG} {c l n : Nat} (hI : Inv s y c) (hz : Cx y c l c) (h0 : sto s = 0) (hC : ∀ j, Cv (Pb s y c l) tr top j n) :
    ∃ y', Inv (tyName tr top s n l).1 y' c ∧ Ex s y (tyName tr top s n l).1 y' ∧ Kt s y (tyName tr top s n l).1 y' ∧ ((tyName tr top s n l).1.1 8 = s.1 8 ∧ (tyName tr top s n l).1.1 9 = s.1 9) ∧ (sto (tyName tr top s n l).1 = 0 → Fi (tyName tr top s n l).1 y' (tyName tr top s n l).2 l c ∧ ps y' (tyName tr top s n l).2 = 1) := by
  obtain ⟨i1, i2⟩ := i_askn (n := n) hI
  have hG := hI.1
  unfold tyName
  rcases hb : binder tr top (tr 1 n) 120 n with _ | u
  · obtain ⟨u1, u2⟩ := i_stops (w := 2) (p := n) i1
    refine ⟨y, u1, i2.tr u2, Kt.rf, ?_, fun h => absurd h (sto_stops (by omega))⟩
    show (stops (w1 s 0 5 n) 2 n).1 8 = s.1 8 ∧ (stops (w1 s 0 5 n) 2 n).1 9 = s.1 9
    unfold stops
    split <;> exact ⟨rfl, rfl⟩
  have hP := Cv.bind 120 n (hC 120) hb
  show ∃ y', Inv (if s.1 9 u = 0 then (w1 s 0 5 n, s.1 8 u) else startCp (w1 s 0 5 n) (s.1 8 u) 2 (s.1 9 u - 1) l).1 y' c ∧ Ex s y (if s.1 9 u = 0 then (w1 s 0 5 n, s.1 8 u) else startCp (w1 s 0 5 n) (s.1 8 u) 2 (s.1 9 u - 1) l).1 y' ∧ Kt s y (if s.1 9 u = 0 then (w1 s 0 5 n, s.1 8 u) else startCp (w1 s 0 5 n) (s.1 8 u) 2 (s.1 9 u - 1) l).1 y' ∧ ((if s.1 9 u = 0 then (w1 s 0 5 n, s.1 8 u) else startCp (w1 s 0 5 n) (s.1 8 u) 2 (s.1 9 u - 1) l).1.1 8 = s.1 8 ∧ (if s.1 9 u = 0 then (w1 s 0 5 n, s.1 8 u) else startCp (w1 s 0 5 n) (s.1 8 u) 2 (s.1 9 u - 1) l).1.1 9 = s.1 9) ∧ (sto (if s.1 9 u = 0 then (w1 s 0 5 n, s.1 8 u) else startCp (w1 s 0 5 n) (s.1 8 u) 2 (s.1 9 u - 1) l).1 = 0 → Fi (if s.1 9 u = 0 then (w1 s 0 5 n, s.1 8 u) else startCp (w1 s 0 5 n) (s.1 8 u) 2 (s.1 9 u - 1) l).1 y' (if s.1 9 u = 0 then (w1 s 0 5 n, s.1 8 u) else startCp (w1 s 0 5 n) (s.1 8 u) 2 (s.1 9 u - 1) l).2 l c ∧ ps y' (if s.1 9 u = 0 then (w1 s 0 5 n, s.1 8 u) else startCp (w1 s 0 5 n) (s.1 8 u) 2 (s.1 9 u - 1) l).2 = 1)
  by_cases h9 : s.1 9 u = 0
  · rw [if_pos h9]
    obtain ⟨a, b, d⟩ := hP.1 h9
    exact ⟨y, i1, i2, Kt.rf, ⟨rfl, rfl⟩, fun _ => ⟨a.ext hG.2.2.1.2.1 i2, (nw_of hI a.1 b).1⟩⟩
  rw [if_neg h9]
  obtain ⟨m, hm⟩ : ∃ m, s.1 9 u = m + 1 := ⟨s.1 9 u - 1, by omega⟩
  obtain ⟨a, b, g, g1, g2, g3, g4, g5, g6⟩ := hP.2 m hm
  have e : s.1 9 u - 1 = m := by omega
  rw [e]
  obtain ⟨j1, j2⟩ := i_time i1
  have hS : Src y c g (m + 1) m l c (2 = 2) := ⟨⟨g1, g2, g3⟩, ⟨by omega, a, hz⟩, g5, ⟨fun _ => g6, fun h => absurd rfl h⟩, fun _ => ⟨rfl, hz⟩, fun h => absurd rfl h⟩
  obtain ⟨-, y', k1, k2, k3, -, k5⟩ := copy_ok (c := c) (ab := m) (lv := l) (z := c) 60 2 (by omega) (newTime (w1 s 0 5 n)) y (s.1 8 u) (m + 1) g j1 (fun i hi => absurd rfl hi) hS (g4.ext g2 (i2.tr j2))
  have hku := Ku.kp k3 (Nat.le_refl _) 0
  refine ⟨y', k1, (i2.tr j2).tr k2, ⟨by rw [hku.1.1, hku.1.2.1]; exact Nat.le_refl _, fun t ht => ?_⟩, ⟨hku.2.2.2.2.1, hku.2.2.2.2.2⟩, fun hs => ?_⟩
  · have := hku.2.2.1 t ht
    rw [if_neg (by omega)] at this
    exact this
  · obtain ⟨r1, r2, -⟩ := k5 hs
    exact ⟨r1, r2 b⟩
