/-! ===== the class's TYPES are the machine's: rows told by numbers ===== -/
def ks (z : aS) (t : Nat) : Nat := if srt z t = 0 then t else srt z t + 1
def Kt0 (S : cS) (z : aS) : Prop := kK S 6 = nT z ∧ kK S 7 = nT z ∧ kK S 8 = nT z ∧ kK S 9 = nT z ∧ kK S 14 = nV z ∧ kK S 11 = kK S 10 ∧ kK S 10 ≤ 3700 ∧ nT z ≤ 602 ∧ nV z ≤ 150 ∧ 2 ≤ nT z ∧ 2 * nV z ≤ kB S
def Kt1 (S : cS) (z : aS) : Prop := ∀ t, t < nT z → kF S 6 t = nI (ks z t) ∧ kF S 7 t = nI (lev z t) ∧ srt z t ≤ 3 ∧ (srt z t = 0 → lev z t = 0 ∧ t < 2) ∧ lev z t ≤ 100
def Kt2 (S : cS) (z : aS) : Prop := ∀ t, t < nT z → srt z t = 1 → kF S 8 t = nI (one z t) ∧ kF S 9 t = nI (two z t) ∧ one z t < nT z ∧ two z t < nT z
def Kt3 (S : cS) (z : aS) : Prop := ∀ t, t < nT z → srt z t = 2 → ∃ b, kF S 8 t = nI b ∧ kF S 9 t = nI (parts z t).length ∧ (labs z t).length = (parts z t).length ∧ (parts z t).length ≤ 6 ∧ b + (parts z t).length ≤ kK S 10 ∧ ∀ i, i < (parts z t).length → kF S 10 (b + i) = nI ((labs z t).getD i 0) ∧ kF S 11 (b + i) = nI ((parts z t).getD i 0) ∧ (parts z t).getD i 0 < nT z ∧ (labs z t).getD i 0 < 26
def Kt4 (S : cS) (z : aS) : Prop := (∀ t, t < nT z → srt z t = 3 → kF S 8 t = nI (one z t) ∧ one z t < nV z ∧ z.1 6 (one z t) = t) ∧ ∀ v, v < nV z → kF S 14 v = nI (z.1 6 v) ∧ z.1 6 v < nT z ∧ srt z (z.1 6 v) = 3 ∧ one z (z.1 6 v) = v
def Kt5 (S : cS) (z : aS) : Prop := ∀ v, v < nV z → ∀ sd, sd < 2 → kK S (35 + (2 * v + sd)) = (row z sd (z.1 6 v)).length ∧ ∀ i, i < (row z sd (z.1 6 v)).length → kF S (35 + (2 * v + sd)) i = nI ((row z sd (z.1 6 v)).getD i 0) ∧ (row z sd (z.1 6 v)).getD i 0 < nT z
def KT (S : cS) (z : aS) : Prop := Kt0 S z ∧ Kt1 S z ∧ Kt2 S z ∧ Kt3 S z ∧ Kt4 S z ∧ Kt5 S z
/-- the machine's numbers that this speaks of are as they were -/
theorem KT.z {S : cS} {z z' : aS} (h : KT S z) (e0 : nT z' = nT z) (eV : nV z' = nV z) (e1 : ∀ g, 1 ≤ g → g < 7 → ∀ j, z'.1 g j = z.1 g j) (e2 : z'.2.1 = z.2.1) : KT S z' := by
  have hs : ∀ t, srt z' t = srt z t := fun t => e1 1 (by decide) (by decide) t
  have hl : ∀ t, lev z' t = lev z t := fun t => e1 2 (by decide) (by decide) t
  have h1 : ∀ t, one z' t = one z t := fun t => e1 3 (by decide) (by decide) t
  have h2 : ∀ t, two z' t = two z t := fun t => e1 4 (by decide) (by decide) t
  have h6 : ∀ v, z'.1 6 v = z.1 6 v := fun v => e1 6 (by decide) (by decide) v
  have hr : ∀ sd x, row z' sd x = row z sd x := fun sd x => by show z'.2.1 sd x = z.2.1 sd x; rw [e2]
  have hp : ∀ x, parts z' x = parts z x := fun x => hr 2 x
  have hla : ∀ x, labs z' x = labs z x := fun x => hr 3 x
  have hk : ∀ t, ks z' t = ks z t := fun t => by unfold ks; rw [hs]
  obtain ⟨⟨a1, a2, a3, a4, a5, a6, a6b, a7, a8, a9, a10⟩, b, c, d, ⟨e, f⟩, g⟩ := h
  refine ⟨⟨by rw [e0]; exact a1, by rw [e0]; exact a2, by rw [e0]; exact a3, by rw [e0]; exact a4, by rw [eV]; exact a5, a6, a6b, by rw [e0]; exact a7, by rw [eV]; exact a8, by rw [e0]; exact a9, by rw [eV]; exact a10⟩, fun t ht => ?_, fun t ht h3 => ?_, fun t ht h3 => ?_, ⟨fun t ht h3 => ?_, fun v hv => ?_⟩, fun v hv sd hsd => ?_⟩
  · rw [e0] at ht
    rw [hk, hl, hs]
    exact b t ht
  · rw [e0] at ht
    rw [hs] at h3
    rw [h1, h2, e0]
    exact c t ht h3
  · rw [e0] at ht
    rw [hs] at h3
    rw [hp, hla, e0]
    exact d t ht h3
  · rw [e0] at ht
    rw [hs] at h3
    rw [h1, eV, h6]
    exact e t ht h3
  · rw [eV] at hv
    rw [h6, e0, hs, h1]
    exact f v hv
  · rw [eV] at hv
    rw [h6, hr, e0]
    exact g v hv sd hsd
theorem KT.w {S : cS} {z : aS} (h : KT S z) (f i v : Nat) (hf : f = 0 ∧ 2 ≤ i ∨ 7 ≤ f) : KT S (w1 z f i v) := by
  have g0 : ∀ j, j < 2 → (w1 z f i v).1 0 j = z.1 0 j := fun j hj => by
    show mst z.1 f i v 0 j = z.1 0 j
    unfold mst
    rcases hf with h | h
    · split
      · rw [if_neg (by omega)]
      · rfl
    · rw [if_neg (by omega)]
  exact h.z (g0 0 (by decide)) (g0 1 (by decide)) (fun g h1 h2 j => by
    show mst z.1 f i v g j = z.1 g j
    unfold mst
    rw [if_neg (by omega)]) rfl
theorem kt_stops {S : cS} {z : aS} (h : KT S z) (a b : Nat) : KT S (stops z a b) := by
  by_cases e : sto z = 0
  · rw [show stops z a b = w1 (w1 z 0 3 a) 0 4 (b + 1) from if_pos e]
    exact (h.w 0 3 a (by omega)).w 0 4 _ (by omega)
  · rw [stops_no e]
    exact h
theorem kt_asked {S : cS} {z : aS} (h : KT S z) (a b : Nat) : KT S (asked z a b) := h
theorem KT.time {S : cS} {z : aS} (h : KT S z) : KT S (newTime z) := h.z rfl rfl (fun g _ h2 j => by
  show (if g = 7 then 0 else z.1 g j) = z.1 g j
  rw [if_neg (by omega)]) rfl
/-- rows that this doesn't speak of -/
theorem KT.aw {rs is : List Nat} {S u : cS} {z : aS} (h : KT S z) (a : AW rs is S u) (hr : ∀ r ∈ [6, 7, 8, 9, 10, 11, 14, 35], r ∉ rs) : KT u z := by
  have k : ∀ r, r < 35 → r ∈ [6, 7, 8, 9, 10, 11, 14, 35] → kF u r = kF S r ∧ kK u r = kK S r := fun r h1 h2 => a.2.1 r (by omega) (by rw [Nat.min_eq_left (by omega)]; exact hr r h2)
  obtain ⟨⟨a1, a2, a3, a4, a5, a6, a6b, a7, a8, a9, a10⟩, b, c, d, ⟨e, f⟩, g⟩ := h
  obtain ⟨f6, k6⟩ := k 6 (by decide) (by decide)
  obtain ⟨f7, k7⟩ := k 7 (by decide) (by decide)
  obtain ⟨f8, k8⟩ := k 8 (by decide) (by decide)
  obtain ⟨f9, k9⟩ := k 9 (by decide) (by decide)
  obtain ⟨f10, k10⟩ := k 10 (by decide) (by decide)
  obtain ⟨f11, k11⟩ := k 11 (by decide) (by decide)
  obtain ⟨f14, k14⟩ := k 14 (by decide) (by decide)
  refine ⟨⟨k6.trans a1, k7.trans a2, k8.trans a3, k9.trans a4, k14.trans a5, by rw [k11, k10]; exact a6, by rw [k10]; exact a6b, a7, a8, a9, Nat.le_trans a10 a.2.2.2.1⟩, fun t ht => ?_, fun t ht h3 => ?_, fun t ht h3 => ?_, ⟨fun t ht h3 => ?_, fun v hv => ?_⟩, fun v hv sd hsd => ?_⟩
  · rw [f6, f7]; exact b t ht
  · rw [f8, f9]; exact c t ht h3
  · rw [f8, f9, f10, f11, k10]; exact d t ht h3
  · rw [f8]; exact e t ht h3
  · rw [f14]; exact f v hv
  · obtain ⟨q1, q2⟩ := a.2.1 (35 + (2 * v + sd)) (by omega) (by rw [Nat.min_eq_right (Nat.le_add_right 35 _)]; exact hr 35 (by decide))
    rw [q1, q2]
    exact g v hv sd hsd
/-! what is read -/
theorem rget_k {f : Nat → Int32} {k t : Nat} {x : Int32} (hk : t < k) (hk2 : k < 2 ^ 31) (h : f t = x) : rget f k (nI t) = x := (rget_at hk hk2).trans h
theorem KT.rs {S : cS} {z : aS} {t : Nat} (h : KT S z) (ht : t < nT z) : rget (kF S 6) (kK S 6) (nI t) = nI (ks z t) := by
  obtain ⟨⟨a1, a2, a3, a4, a5, a6, a6b, a7, a8, a9, a10⟩, b, -⟩ := h
  exact rget_k (by rw [a1]; exact ht) (by rw [a1]; omega) (b t ht).1
theorem KT.rl {S : cS} {z : aS} {t : Nat} (h : KT S z) (ht : t < nT z) : rget (kF S 7) (kK S 7) (nI t) = nI (lev z t) := by
  obtain ⟨⟨a1, a2, a3, a4, a5, a6, a6b, a7, a8, a9, a10⟩, b, -⟩ := h
  exact rget_k (by rw [a2]; exact ht) (by rw [a2]; omega) (b t ht).2.1
theorem KT.lv {S : cS} {z : aS} {t : Nat} (h : KT S z) (ht : t < nT z) : lev z t ≤ 100 := (h.2.1 t ht).2.2.2.2
theorem KT.s3 {S : cS} {z : aS} {t : Nat} (h : KT S z) (ht : t < nT z) : srt z t ≤ 3 ∧ (srt z t = 0 → lev z t = 0 ∧ t < 2) := ⟨(h.2.1 t ht).2.2.1, (h.2.1 t ht).2.2.2.1⟩
theorem KT.f1 {S : cS} {z : aS} {t : Nat} (h : KT S z) (ht : t < nT z) (h1 : srt z t = 1) : rget (kF S 8) (kK S 8) (nI t) = nI (one z t) ∧ rget (kF S 9) (kK S 9) (nI t) = nI (two z t) ∧ one z t < nT z ∧ two z t < nT z := by
  obtain ⟨⟨a1, a2, a3, a4, a5, a6, a6b, a7, a8, a9, a10⟩, -, c, -⟩ := h
  obtain ⟨g1, g2, g3, g4⟩ := c t ht h1
  exact ⟨rget_k (by rw [a3]; exact ht) (by rw [a3]; omega) g1, rget_k (by rw [a4]; exact ht) (by rw [a4]; omega) g2, g3, g4⟩
theorem KT.f3 {S : cS} {z : aS} {t : Nat} (h : KT S z) (ht : t < nT z) (h1 : srt z t = 3) : rget (kF S 8) (kK S 8) (nI t) = nI (one z t) ∧ one z t < nV z ∧ z.1 6 (one z t) = t := by
  obtain ⟨⟨a1, a2, a3, a4, a5, a6, a6b, a7, a8, a9, a10⟩, -, -, -, ⟨c, -⟩, -⟩ := h
  obtain ⟨g1, g2, g3⟩ := c t ht h1
  exact ⟨rget_k (by rw [a3]; exact ht) (by rw [a3]; omega) g1, g2, g3⟩
theorem KT.f2 {S : cS} {z : aS} {t : Nat} (h : KT S z) (ht : t < nT z) (h1 : srt z t = 2) : ∃ b, rget (kF S 8) (kK S 8) (nI t) = nI b ∧ rget (kF S 9) (kK S 9) (nI t) = nI (parts z t).length ∧ (labs z t).length = (parts z t).length ∧ (parts z t).length ≤ 6 ∧ b ≤ 3700 ∧ ∀ i, i < (parts z t).length → rget (kF S 10) (kK S 10) (nI (b + i)) = nI ((labs z t).getD i 0) ∧ rget (kF S 11) (kK S 11) (nI (b + i)) = nI ((parts z t).getD i 0) ∧ (parts z t).getD i 0 < nT z ∧ (labs z t).getD i 0 < 26 := by
  obtain ⟨⟨a1, a2, a3, a4, a5, a6, a6b, a7, a8, a9, a10⟩, -, -, d, -⟩ := h
  obtain ⟨b, g1, g2, g3, g4, g5, g6⟩ := d t ht h1
  refine ⟨b, rget_k (by rw [a3]; exact ht) (by rw [a3]; omega) g1, rget_k (by rw [a4]; exact ht) (by rw [a4]; omega) g2, g3, g4, by omega, fun i hi => ?_⟩
  obtain ⟨p1, p2, p3, p4⟩ := g6 i hi
  exact ⟨rget_k (by omega) (by omega) p1, rget_k (by omega) (by omega) p2, p3, p4⟩
theorem KT.bn {S : cS} {z : aS} {t sd : Nat} (h : KT S z) (ht : t < nT z) (h1 : srt z t = 3) (hsd : sd < 2) : kK S (35 + (2 * one z t + sd)) = (row z sd t).length ∧ ∀ i, i < (row z sd t).length → kF S (35 + (2 * one z t + sd)) i = nI ((row z sd t).getD i 0) ∧ (row z sd t).getD i 0 < nT z := by
  obtain ⟨-, g2, g3⟩ := h.f3 ht h1
  have g := h.2.2.2.2.2 (one z t) g2 sd hsd
  rw [g3] at g
  exact g
theorem ks_2 {z : aS} {t : Nat} (h : srt z t ≤ 3 ∧ (srt z t = 0 → lev z t = 0 ∧ t < 2)) {k : Nat} (hk : 2 ≤ k) (hk2 : k ≤ 4) : nI (ks z t) = nI k ↔ srt z t + 1 = k := by
  unfold ks
  obtain ⟨h1, h2⟩ := h
  by_cases e : srt z t = 0
  · rw [if_pos e, nI_eq (by have := (h2 e).2; omega) (by omega), e]
    have := (h2 e).2
    omega
  · rw [if_neg e, nI_eq (by omega) (by omega)]
/-! what is made -/
/-- one more TYPE: its four numbers; those that were are as they were -/
def AD (S u : cS) (T : Nat) (a b c d : Int32) : Prop := (kK u 6 = T + 1 ∧ kK u 7 = T + 1 ∧ kK u 8 = T + 1 ∧ kK u 9 = T + 1) ∧ (kF u 6 T = a ∧ kF u 7 T = b ∧ kF u 8 T = c ∧ kF u 9 T = d) ∧ ∀ t, t < T → kF u 6 t = kF S 6 t ∧ kF u 7 t = kF S 7 t ∧ kF u 8 t = kF S 8 t ∧ kF u 9 t = kF S 9 t
/-- the other rows of TYPES are as they were -/
def OB (S u : cS) (V : Nat) : Prop := ∀ j, j < 2 * V → kK u (35 + j) = kK S (35 + j) ∧ kF u (35 + j) = kF S (35 + j)
theorem AW.ob {rs is : List Nat} {S u : cS} {V : Nat} (a : AW rs is S u) (h : 35 ∉ rs) (hB : 2 * V ≤ kB S) : OB S u V := fun j hj => by
  obtain ⟨q1, q2⟩ := a.2.1 (35 + j) (by omega) (by rw [Nat.min_eq_right (Nat.le_add_right 35 j)]; exact h)
  exact ⟨q2, q1⟩
theorem kt_newV {S u : cS} {z : aS} {l : Nat} {w : Int32} (h : KT S z) (hv : nV z < 150) (ht : nT z < 602) (hl : l ≤ 100) (ad : AD S u (nT z) 4 (nI l) (nI (nV z)) w) (e14 : kK u 14 = nV z + 1 ∧ kF u 14 (nV z) = nI (nT z) ∧ ∀ v, v < nV z → kF u 14 v = kF S 14 v) (e10 : kF u 10 = kF S 10 ∧ kF u 11 = kF S 11 ∧ kK u 10 = kK S 10 ∧ kK u 11 = kK S 11) (ob : OB S u (nV z)) (h0 : kK u (35 + 2 * nV z) = 0) (h1 : kK u (35 + (2 * nV z + 1)) = 0) (hB : 2 * (nV z + 1) ≤ kB u) : KT u (newV z l) := by
  obtain ⟨⟨a1, a2, a3, a4, a5, a6, a6b, a7, a8, a9, a10⟩, b, c, d, ⟨e, f⟩, g⟩ := h
  obtain ⟨⟨n1, n2, n3, n4⟩, ⟨n5, n6, n7, n8⟩, n9⟩ := ad
  obtain ⟨m1, m2, m3⟩ := e14
  obtain ⟨p1, p2, p3, p4⟩ := e10
  have hn : nT (newV z l) = nT z + 1 := rfl
  have hV : nV (newV z l) = nV z + 1 := rfl
  have hs : ∀ t, srt (newV z l) t = if t = nT z then 3 else srt z t := fun _ => rfl
  have hle : ∀ t, lev (newV z l) t = if t = nT z then l else lev z t := fun _ => rfl
  have h1' : ∀ t, one (newV z l) t = if t = nT z then nV z else one z t := fun _ => rfl
  have h2 : ∀ t, two (newV z l) t = two z t := fun _ => rfl
  have hp : ∀ t, parts (newV z l) t = parts z t := fun _ => rfl
  have hla : ∀ t, labs (newV z l) t = labs z t := fun _ => rfl
  have h6 : ∀ v, (newV z l).1 6 v = if v = nV z then nT z else z.1 6 v := fun _ => rfl
  have hr : ∀ sd, sd < 2 → ∀ t, row (newV z l) sd t = if t = nT z then [] else row z sd t := by
    intro sd hsd t
    rcases (by omega : sd = 0 ∨ sd = 1) with rfl | rfl
    · rfl
    · rfl
  have hrow : ∀ v, v < nV z → ∀ sd, sd < 2 → row (newV z l) sd ((newV z l).1 6 v) = row z sd (z.1 6 v) := by
    intro v hv' sd hsd
    have h3 := (f v hv').2.1
    rw [h6, if_neg (by omega), hr sd hsd, if_neg (by omega)]
  have hrow0 : ∀ sd, sd < 2 → row (newV z l) sd ((newV z l).1 6 (nV z)) = [] := by
    intro sd hsd
    rw [h6, if_pos rfl, hr sd hsd, if_pos rfl]
  refine ⟨⟨n1, n2, n3, n4, m1, by rw [p4, p3]; exact a6, by rw [p3]; exact a6b, by omega, by omega, by omega, hB⟩, fun t ht' => ?_, fun t ht' h3 => ?_, fun t ht' h3 => ?_, ⟨fun t ht' h3 => ?_, fun v hv' => ?_⟩, fun v hv' sd hsd => ?_⟩
  · unfold ks
    rw [hs, hle]
    by_cases ee : t = nT z
    · subst ee
      rw [if_pos rfl, if_pos rfl, n5, n6, if_neg (by decide)]
      exact ⟨rfl, rfl, Nat.le_refl _, fun h => absurd h (by decide), hl⟩
    · obtain ⟨q1, q2, q3, q4⟩ := n9 t (by omega)
      rw [if_neg ee, if_neg ee, q1, q2]
      exact b t (by omega)
  · rw [hs] at h3
    by_cases ee : t = nT z
    · rw [if_pos ee] at h3
      omega
    · rw [if_neg ee] at h3
      obtain ⟨q1, q2, q3, q4⟩ := n9 t (by omega)
      rw [h1', h2, if_neg ee, q3, q4, hn]
      obtain ⟨g1, g2, g3, g4⟩ := c t (by omega) h3
      exact ⟨g1, g2, by omega, by omega⟩
  · rw [hs] at h3
    by_cases ee : t = nT z
    · rw [if_pos ee] at h3
      omega
    · rw [if_neg ee] at h3
      obtain ⟨q1, q2, q3, q4⟩ := n9 t (by omega)
      rw [hp, hla, q3, q4, p1, p2, p3, hn]
      obtain ⟨bb, g1, g2, g3, g4, g5, g6⟩ := d t (by omega) h3
      refine ⟨bb, g1, g2, g3, g4, g5, fun i hi => ?_⟩
      obtain ⟨k1, k2, k3, k4⟩ := g6 i hi
      exact ⟨k1, k2, by omega, k4⟩
  · rw [hs] at h3
    rw [h1', hV, h6]
    by_cases ee : t = nT z
    · subst ee
      rw [if_pos rfl, if_pos rfl, n7]
      exact ⟨rfl, by omega, rfl⟩
    · rw [if_neg ee] at h3
      obtain ⟨q1, q2, q3, q4⟩ := n9 t (by omega)
      obtain ⟨g1, g2, g3⟩ := e t (by omega) h3
      rw [if_neg ee, q3, if_neg (by omega)]
      exact ⟨g1, by omega, g3⟩
  · rw [h6, hn]
    by_cases ee : v = nV z
    · subst ee
      rw [if_pos rfl, hs, h1', if_pos rfl, if_pos rfl]
      exact ⟨m2, by omega, rfl, rfl⟩
    · obtain ⟨g1, g2, g3, g4⟩ := f v (by omega)
      rw [if_neg ee, m3 v (by omega), hs, h1', if_neg (by omega), if_neg (by omega)]
      exact ⟨g1, by omega, g3, g4⟩
  · rw [hn]
    by_cases ee : v = nV z
    · subst ee
      rw [hrow0 sd hsd]
      refine ⟨?_, fun i hi => absurd hi (Nat.not_lt_zero _)⟩
      rcases (by omega : sd = 0 ∨ sd = 1) with rfl | rfl
      · exact h0
      · exact h1
    · obtain ⟨q1, q2⟩ := ob (2 * v + sd) (by omega)
      rw [hrow v (by omega) sd hsd, q1, q2]
      obtain ⟨g1, g2⟩ := g v (by omega) sd hsd
      exact ⟨g1, fun i hi => ⟨(g2 i hi).1, by have := (g2 i hi).2; omega⟩⟩
/-- an arrow or a record -/
theorem KT.mk {S u : cS} {z z' : aS} {k lv x1 x2 : Nat} {ls ps : List Nat} {c8 c9 : Int32} (h : KT S z) (ht : nT z < 602) (hk : k = 1 ∨ k = 2) (hl : lv ≤ 100)
    (hnum : nT z' = nT z + 1 ∧ nV z' = nV z)
    (hs : ∀ t, srt z' t = if t = nT z then k else srt z t) (hle : ∀ t, lev z' t = if t = nT z then lv else lev z t) (h1 : ∀ t, one z' t = if t = nT z ∧ k = 1 then x1 else one z t) (h2 : ∀ t, two z' t = if t = nT z ∧ k = 1 then x2 else two z t)
    (hp : ∀ t, parts z' t = if t = nT z ∧ k = 2 then ps else parts z t) (hla : ∀ t, labs z' t = if t = nT z ∧ k = 2 then ls else labs z t) (h6 : ∀ v, z'.1 6 v = z.1 6 v) (hr : ∀ sd, sd < 2 → ∀ t, row z' sd t = row z sd t)
    (ad : AD S u (nT z) (nI (k + 1)) (nI lv) c8 c9) (e14 : kF u 14 = kF S 14 ∧ kK u 14 = kK S 14) (ob : OB S u (nV z)) (hB : kB S ≤ kB u)
    (e10 : kK u 11 = kK u 10 ∧ kK S 10 ≤ kK u 10 ∧ kK u 10 ≤ 3700 ∧ ∀ i, i < kK S 10 → kF u 10 i = kF S 10 i ∧ kF u 11 i = kF S 11 i)
    (new : (k = 1 → c8 = nI x1 ∧ c9 = nI x2 ∧ x1 < nT z ∧ x2 < nT z) ∧ (k = 2 → ∃ b, c8 = nI b ∧ c9 = nI ps.length ∧ ls.length = ps.length ∧ ps.length ≤ 6 ∧ b + ps.length ≤ kK u 10 ∧ ∀ i, i < ps.length → kF u 10 (b + i) = nI (ls.getD i 0) ∧ kF u 11 (b + i) = nI (ps.getD i 0) ∧ ps.getD i 0 < nT z ∧ ls.getD i 0 < 26)) : KT u z' := by
  have hk3 : k ≤ 3 ∧ k ≠ 0 := by
    rcases hk with e | e
    · rw [e]; decide
    · rw [e]; decide
  have hk13 : k ≠ 3 := by
    rcases hk with e | e
    · rw [e]; decide
    · rw [e]; decide
  clear hk
  obtain ⟨nw1, nw2⟩ := new
  obtain ⟨⟨a1, a2, a3, a4, a5, a6, a6b, a7, a8, a9, a10⟩, b, c, d, ⟨e, f⟩, g⟩ := h
  obtain ⟨⟨n1, n2, n3, n4⟩, ⟨n5, n6, n7, n8⟩, n9⟩ := ad
  obtain ⟨hn, hV⟩ := hnum
  obtain ⟨m1, m2⟩ := e14
  obtain ⟨p1, p2, p3, p4⟩ := e10
  refine ⟨⟨n1.trans hn.symm, n2.trans hn.symm, n3.trans hn.symm, n4.trans hn.symm, by rw [m2, hV]; exact a5, p1, p3, by omega, by omega, by omega, by omega⟩, fun t ht' => ?_, fun t ht' h3 => ?_, fun t ht' h3 => ?_, ⟨fun t ht' h3 => ?_, fun v hv' => ?_⟩, fun v hv' sd hsd => ?_⟩
  · unfold ks
    rw [hs, hle]
    by_cases ee : t = nT z
    · subst ee
      rw [if_pos rfl, if_pos rfl, n5, n6, if_neg hk3.2]
      exact ⟨rfl, rfl, hk3.1, fun h => absurd h hk3.2, hl⟩
    · obtain ⟨q1, q2, q3, q4⟩ := n9 t (by omega)
      rw [if_neg ee, if_neg ee, q1, q2]
      exact b t (by omega)
  · rw [hs] at h3
    rw [h1, h2, hn]
    by_cases ee : t = nT z
    · rw [if_pos ee] at h3
      subst ee
      rw [if_pos ⟨rfl, h3⟩, if_pos ⟨rfl, h3⟩, n7, n8]
      obtain ⟨g1, g2, g3, g4⟩ := nw1 h3
      exact ⟨g1, g2, by omega, by omega⟩
    · rw [if_neg ee] at h3
      obtain ⟨q1, q2, q3, q4⟩ := n9 t (by omega)
      rw [if_neg (fun z => ee z.1), if_neg (fun z => ee z.1), q3, q4]
      obtain ⟨g1, g2, g3, g4⟩ := c t (by omega) h3
      exact ⟨g1, g2, by omega, by omega⟩
  · rw [hs] at h3
    rw [hp, hla, hn]
    by_cases ee : t = nT z
    · rw [if_pos ee] at h3
      subst ee
      rw [if_pos ⟨rfl, h3⟩, if_pos ⟨rfl, h3⟩, n7, n8]
      obtain ⟨bb, g1, g2, g3, g4, g5, g6⟩ := nw2 h3
      refine ⟨bb, g1, g2, g3, g4, g5, fun i hi => ?_⟩
      obtain ⟨k1, k2, k3, k4⟩ := g6 i hi
      exact ⟨k1, k2, by omega, k4⟩
    · rw [if_neg ee] at h3
      obtain ⟨q1, q2, q3, q4⟩ := n9 t (by omega)
      rw [if_neg (fun z => ee z.1), if_neg (fun z => ee z.1), q3, q4]
      obtain ⟨bb, g1, g2, g3, g4, g5, g6⟩ := d t (by omega) h3
      refine ⟨bb, g1, g2, g3, g4, by omega, fun i hi => ?_⟩
      obtain ⟨k1, k2, k3, k4⟩ := g6 i hi
      obtain ⟨r1, r2⟩ := p4 (bb + i) (by omega)
      exact ⟨by rw [r1]; exact k1, by rw [r2]; exact k2, by omega, k4⟩
  · rw [hs] at h3
    by_cases ee : t = nT z
    · rw [if_pos ee] at h3
      exact absurd h3 hk13
    · rw [if_neg ee] at h3
      obtain ⟨q1, q2, q3, q4⟩ := n9 t (by omega)
      rw [h1, if_neg (fun z => ee z.1), q3, hV, h6]
      exact e t (by omega) h3
  · obtain ⟨g1, g2, g3, g4⟩ := f v (by omega)
    rw [h6, m1, hn, hs, h1, if_neg (by omega), if_neg (fun z => by omega)]
    exact ⟨g1, by omega, g3, g4⟩
  · obtain ⟨q1, q2⟩ := ob (2 * v + sd) (by omega)
    rw [h6, hr sd hsd, hn, q1, q2]
    obtain ⟨g1, g2⟩ := g v (by omega) sd hsd
    exact ⟨g1, fun i hi => ⟨(g2 i hi).1, by have := (g2 i hi).2; omega⟩⟩
theorem mkA_e {z : aS} {a b : Nat} (h0 : sto z = 0) (ht : nT z ≠ 602) : mkA z a b = (w1 (w1 (newT z 1 (max (lev z a) (lev z b))) 3 (nT z) a) 4 (nT z) b, nT z) := by
  unfold mkA
  rw [if_neg (fun h => h h0), if_neg ht]
theorem mkA_f {z : aS} {a b : Nat} (h0 : sto z = 0) (ht : nT z = 602) : mkA z a b = (stops z 1 (askn z), 0) := by
  unfold mkA
  rw [if_neg (fun h => h h0), if_pos ht]
theorem mkR_e {z : aS} {ls ps : List Nat} (h0 : sto z = 0) (ht : nT z ≠ 602) : mkR z ls ps = (w2 (w2 (newT z 2 (lmax z ps)) 2 (nT z) ps) 3 (nT z) ls, nT z) := by
  unfold mkR
  rw [if_neg (fun h => h h0), if_neg ht]
theorem mkR_f {z : aS} {ls ps : List Nat} (h0 : sto z = 0) (ht : nT z = 602) : mkR z ls ps = (stops z 1 (askn z), 0) := by
  unfold mkR
  rw [if_neg (fun h => h h0), if_pos ht]
theorem mkV_e {z : aS} {l : Nat} (hv : nV z ≠ 150) (ht : nT z ≠ 602) : mkV z l = (newV z l, nT z) := by
  unfold mkV
  rw [if_neg hv, if_neg ht]
theorem mkV_f {z : aS} {l : Nat} (h : nV z = 150 ∨ nT z = 602) : mkV z l = (stops z 1 (askn z), 0) := by
  unfold mkV
  by_cases hv : nV z = 150
  · rw [if_pos hv]
  · rw [if_neg hv, if_pos (by omega)]
theorem kt_mkA {S u : cS} {z : aS} {a b : Nat} (h : KT S z) (h0 : sto z = 0) (ht : nT z < 602) (ha : a < nT z) (hb : b < nT z) (ad : AD S u (nT z) 2 (nI (max (lev z a) (lev z b))) (nI a) (nI b)) (hw : AW [6, 7, 8, 9, 16] [] S u) : KT u (mkA z a b).1 ∧ (mkA z a b).2 = nT z ∧ sto (mkA z a b).1 = 0 := by
  rw [mkA_e h0 (by omega)]
  have l1 := h.lv ha
  have l2 := h.lv hb
  have q : ∀ r, r < 35 → r ∉ [6, 7, 8, 9, 16] → kF u r = kF S r ∧ kK u r = kK S r := fun r h1 h2 => hw.2.1 r (by omega) (by rw [Nat.min_eq_left (by omega)]; exact h2)
  obtain ⟨f10, k10⟩ := q 10 (by decide) (by decide)
  obtain ⟨f11, k11⟩ := q 11 (by decide) (by decide)
  refine ⟨?_, rfl, h0⟩
  refine KT.mk (k := 1) (lv := max (lev z a) (lev z b)) (x1 := a) (x2 := b) (ls := []) (ps := []) h ht (Or.inl rfl) (by omega) ⟨rfl, rfl⟩ (fun _ => rfl) (fun _ => rfl) (fun t => ?_) (fun t => ?_) (fun t => ?_) (fun t => ?_) (fun _ => rfl) (fun sd hsd t => rfl) ad (q 14 (by decide) (by decide)) (hw.ob (by decide) h.1.2.2.2.2.2.2.2.2.2.2) hw.2.2.2.1 ⟨by rw [k11, k10]; exact h.1.2.2.2.2.2.1, by rw [k10]; exact Nat.le_refl _, by rw [k10]; exact h.1.2.2.2.2.2.2.1, fun i _ => by rw [f10, f11]; exact ⟨rfl, rfl⟩⟩ ⟨fun _ => ⟨rfl, rfl, ha, hb⟩, fun h => absurd h (by decide)⟩
  · show (if t = nT z then a else one z t) = _
    by_cases e : t = nT z
    · rw [if_pos e, if_pos ⟨e, rfl⟩]
    · rw [if_neg e, if_neg (fun z => e z.1)]
  · show (if t = nT z then b else two z t) = _
    by_cases e : t = nT z
    · rw [if_pos e, if_pos ⟨e, rfl⟩]
    · rw [if_neg e, if_neg (fun z => e z.1)]
  · show parts z t = _
    rw [if_neg (fun z => absurd z.2 (by decide))]
  · show labs z t = _
    rw [if_neg (fun z => absurd z.2 (by decide))]
theorem lmax_100 {S : cS} {z : aS} {ps : List Nat} (h : KT S z) (hps : ∀ i, i < ps.length → ps.getD i 0 < nT z) : lmax z ps ≤ 100 := lmax_le (fun x hx => by
  obtain ⟨i, hi, e⟩ := List.getElem_of_mem hx
  have := hps i hi
  rw [gtD hi, e] at this
  exact h.lv this)
theorem kt_mkR {S u : cS} {z : aS} {ls ps : List Nat} {b : Nat} (h : KT S z) (h0 : sto z = 0) (ht : nT z < 602) (ad : AD S u (nT z) 3 (nI (lmax z ps)) (nI b) (nI ps.length)) (e14 : kF u 14 = kF S 14 ∧ kK u 14 = kK S 14) (ob : OB S u (nV z)) (hB : kB S ≤ kB u) (hb : b = kK S 10) (e10 : kK u 10 = b + ps.length ∧ kK u 11 = b + ps.length ∧ b + ps.length ≤ 3700 ∧ ∀ i, i < b → kF u 10 i = kF S 10 i ∧ kF u 11 i = kF S 11 i) (hl : ls.length = ps.length) (h6 : ps.length ≤ 6) (new : ∀ i, i < ps.length → kF u 10 (b + i) = nI (ls.getD i 0) ∧ kF u 11 (b + i) = nI (ps.getD i 0) ∧ ps.getD i 0 < nT z ∧ ls.getD i 0 < 26) : KT u (mkR z ls ps).1 ∧ (mkR z ls ps).2 = nT z ∧ sto (mkR z ls ps).1 = 0 := by
  rw [mkR_e h0 (by omega)]
  obtain ⟨p1, p2, p3, p4⟩ := e10
  refine ⟨?_, rfl, h0⟩
  refine KT.mk (k := 2) (lv := lmax z ps) (x1 := 0) (x2 := 0) (ls := ls) (ps := ps) h ht (Or.inr rfl) (lmax_100 h (fun i hi => (new i hi).2.2.1)) ⟨rfl, rfl⟩ (fun _ => rfl) (fun _ => rfl) (fun t => ?_) (fun t => ?_) (fun t => ?_) (fun t => ?_) (fun _ => rfl) (fun sd hsd t => ?_) ad e14 ob hB ⟨by rw [p1, p2], by omega, by omega, fun i hi => p4 i (by omega)⟩ ⟨fun h => absurd h (by decide), fun _ => ⟨b, rfl, rfl, hl, h6, by omega, new⟩⟩
  · rw [if_neg (fun z => absurd z.2 (by decide))]
    rfl
  · rw [if_neg (fun z => absurd z.2 (by decide))]
    rfl
  · show (if t = nT z then ps else parts z t) = _
    by_cases e : t = nT z
    · rw [if_pos e, if_pos ⟨e, rfl⟩]
    · rw [if_neg e, if_neg (fun z => e z.1)]
  · show (if t = nT z then ls else labs z t) = _
    by_cases e : t = nT z
    · rw [if_pos e, if_pos ⟨e, rfl⟩]
    · rw [if_neg e, if_neg (fun z => e z.1)]
  · rcases (by omega : sd = 0 ∨ sd = 1) with rfl | rfl
    · rfl
    · rfl
/-- a TYPE comes behind a side of a VARIABLE -/
theorem kt_bind {S u : cS} {z : aS} {t sd x n q : Nat} {g : Nat → Int32} (h : KT S z) (ht : t < nT z) (h3 : srt z t = 3) (hsd : sd < 2) (hx : x < nT z) (hu : u = uR S (35 + (2 * one z t + sd)) (kK S (35 + (2 * one z t + sd)) + 1) n q g) (g1 : ∀ j, j < kK S (35 + (2 * one z t + sd)) → g j = kF S (35 + (2 * one z t + sd)) j) (g2 : g (kK S (35 + (2 * one z t + sd))) = nI x) : KT u (bind z t sd x) := by
  obtain ⟨v1, v2, v3⟩ := h.f3 ht h3
  have hw := h.bn ht h3 hsd
  obtain ⟨⟨a1, a2, a3, a4, a5, a6, a6b, a7, a8, a9, a10⟩, b, c, d, ⟨e, f⟩, g'⟩ := h
  have ro : ∀ r, r < 35 → kF u r = kF S r ∧ kK u r = kK S r := fun r hr => by rw [hu]; exact ⟨uR_Fo (by omega), uR_Ko (by omega)⟩
  have hn : nT (bind z t sd x) = nT z := rfl
  have h6 : ∀ v, (bind z t sd x).1 6 v = z.1 6 v := fun _ => rfl
  have hp : ∀ y, parts (bind z t sd x) y = parts z y := fun y => by
    show (if 2 = sd then _ else z.2.1 2 y) = _
    rw [if_neg (by omega)]
  have hla : ∀ y, labs (bind z t sd x) y = labs z y := fun y => by
    show (if 3 = sd then _ else z.2.1 3 y) = _
    rw [if_neg (by omega)]
  have kB' : kB u = kB S := by rw [hu]; rfl
  obtain ⟨f6, k6⟩ := ro 6 (by decide)
  obtain ⟨f7, k7⟩ := ro 7 (by decide)
  obtain ⟨f8, k8⟩ := ro 8 (by decide)
  obtain ⟨f9, k9⟩ := ro 9 (by decide)
  obtain ⟨f10, k10⟩ := ro 10 (by decide)
  obtain ⟨f11, k11⟩ := ro 11 (by decide)
  obtain ⟨f14, k14⟩ := ro 14 (by decide)
  refine ⟨⟨k6.trans a1, k7.trans a2, k8.trans a3, k9.trans a4, k14.trans a5, by rw [k11, k10]; exact a6, by rw [k10]; exact a6b, a7, a8, a9, by rw [kB']; exact a10⟩, fun y hy => ?_, fun y hy hy3 => ?_, fun y hy hy3 => ?_, ⟨fun y hy hy3 => ?_, fun v hv => ?_⟩, fun v hv sd' hsd' => ?_⟩
  · rw [f6, f7]; exact b y hy
  · rw [f8, f9]; exact c y hy hy3
  · rw [f8, f9, f10, f11, k10, hp, hla]; exact d y hy hy3
  · rw [f8]; exact e y hy hy3
  · rw [f14]; exact f v hv
  · rw [h6, bind_row, hn]
    by_cases e1 : 2 * v + sd' = 2 * one z t + sd
    · have e2 : v = one z t := by omega
      have e3 : sd' = sd := by omega
      subst e3
      rw [e2, v3, if_pos rfl, if_pos rfl, hu, uR_K, uR_F]
      obtain ⟨w1, w2⟩ := hw
      have hlen : (row z sd' t ++ [x]).length = (row z sd' t).length + 1 := by rw [List.length_append]; rfl
      refine ⟨by rw [hlen, w1], fun i hi => ?_⟩
      rw [hlen] at hi
      rcases Nat.lt_or_ge i (row z sd' t).length with hi2 | hi2
      · rw [gtL hi2, g1 i (by rw [w1]; exact hi2)]
        exact w2 i hi2
      · have hiL : i = (row z sd' t).length := by omega
        rw [gtR hiL, hiL, ← w1]
        exact ⟨g2, hx⟩
    · have hne : 35 + (2 * v + sd') ≠ 35 + (2 * one z t + sd) := by omega
      rw [hu, uR_Ko hne, uR_Fo hne]
      have er : (if sd' = sd then (if z.1 6 v = t then row z sd t ++ [x] else row z sd' (z.1 6 v)) else row z sd' (z.1 6 v)) = row z sd' (z.1 6 v) := by
        by_cases e4 : sd' = sd
        · rw [if_pos e4, if_neg (fun e5 => e1 ?_)]
          have := (f v hv).2.2.2
          rw [e5] at this
          omega
        · rw [if_neg e4]
      rw [er]
      exact g' v hv sd' hsd'
/-! what was asked -/
def ch (S : cS) : Int32 → List Nat → Prop
  | x, [] => x = -9
  | x, b :: bs => ∃ p, x = nI p ∧ (p < kK S 17 ∧ p < 2000) ∧ kF S 17 p = nI b ∧ b < 1000 ∧ ch S (kF S 18 p) bs
def ask1 (z : aS) (t : Nat) : List Nat := (z.2.2.filter (fun q => q.1 == t)).map Prod.snd
def KQ (S : cS) (z : aS) : Prop := kK S 17 = z.2.2.length ∧ kK S 18 = z.2.2.length ∧ kK S 16 = nT z ∧ (∀ q ∈ z.2.2, q.1 < nT z ∧ q.2 < nT z) ∧ ∀ t, t < nT z → ch S (kF S 16 t) (ask1 z t)
theorem ch.to {S u : cS} (hK : kK S 17 ≤ kK u 17) (h17 : ∀ p, p < kK S 17 → kF u 17 p = kF S 17 p ∧ kF u 18 p = kF S 18 p) : ∀ (bs : List Nat) (x : Int32), ch S x bs → ch u x bs
  | [], _, h => h
  | b :: bs, x, ⟨p, h1, h2, h3, h5, h4⟩ => ⟨p, h1, ⟨by omega, h2.2⟩, (h17 p h2.1).1.trans h3, h5, by rw [(h17 p h2.1).2]; exact ch.to hK h17 bs _ h4⟩
theorem ask1_mem {z : aS} {a b : Nat} : b ∈ ask1 z a ↔ (a, b) ∈ z.2.2 := by
  unfold ask1
  rw [List.mem_map]
  constructor
  · rintro ⟨⟨x, y⟩, h, rfl⟩
    obtain ⟨h1, h2⟩ := List.mem_filter.mp h
    have : x = a := by simpa using h2
    rw [← this]
    exact h1
  · intro h
    exact ⟨(a, b), List.mem_filter.mpr ⟨h, by simp⟩, rfl⟩
theorem ask1_le {z : aS} {a : Nat} : (ask1 z a).length ≤ z.2.2.length := by
  unfold ask1
  rw [List.length_map]
  exact List.length_filter_le _ _
theorem KQ.aw {rs is : List Nat} {S u : cS} {z z' : aS} (h : KQ S z) (a : AW rs is S u) (hr : ∀ r ∈ [16, 17, 18], r ∉ rs) (e : z'.2.2 = z.2.2) (en : nT z' = nT z) : KQ u z' := by
  have k : ∀ r, r < 35 → r ∈ [16, 17, 18] → kF u r = kF S r ∧ kK u r = kK S r := fun r h1 h2 => a.2.1 r (by omega) (by rw [Nat.min_eq_left (by omega)]; exact hr r h2)
  obtain ⟨f16, k16⟩ := k 16 (by decide) (by decide)
  obtain ⟨f17, k17⟩ := k 17 (by decide) (by decide)
  obtain ⟨f18, k18⟩ := k 18 (by decide) (by decide)
  obtain ⟨a1, a2, a3, a4, a5⟩ := h
  refine ⟨by rw [e, k17]; exact a1, by rw [e, k18]; exact a2, by rw [en, k16]; exact a3, by rw [e, en]; exact a4, fun t ht => ?_⟩
  rw [en] at ht
  unfold ask1
  rw [e, f16]
  exact ch.to (by rw [k17]; exact Nat.le_refl _) (fun p _ => by rw [f17, f18]; exact ⟨rfl, rfl⟩) _ _ (a5 t ht)
/-- one more TYPE: nothing was asked of it -/
theorem KQ.new {S u : cS} {z z' : aS} (h : KQ S z) (e : z'.2.2 = z.2.2) (en : nT z' = nT z + 1) (h16 : kK u 16 = nT z + 1 ∧ kF u 16 (nT z) = -9 ∧ ∀ t, t < nT z → kF u 16 t = kF S 16 t) (h17 : kF u 17 = kF S 17 ∧ kF u 18 = kF S 18 ∧ kK u 17 = kK S 17 ∧ kK u 18 = kK S 18) : KQ u z' := by
  obtain ⟨a1, a2, a3, a4, a5⟩ := h
  obtain ⟨b1, b2, b3⟩ := h16
  obtain ⟨c1, c2, c3, c4⟩ := h17
  refine ⟨by rw [e, c3]; exact a1, by rw [e, c4]; exact a2, b1.trans en.symm, by rw [e, en]; exact fun q hq => ⟨by have := (a4 q hq).1; omega, by have := (a4 q hq).2; omega⟩, fun t ht => ?_⟩
  unfold ask1
  rw [e]
  by_cases et : t = nT z
  · subst et
    have : z.2.2.filter (fun q => q.1 == nT z) = [] := List.filter_eq_nil_iff.mpr (fun q hq => by
      have := (a4 q hq).1
      simp
      omega)
    rw [this, b2]
    exact rfl
  · rw [b3 t (by omega)]
    exact ch.to (by rw [c3]; exact Nat.le_refl _) (fun p _ => by rw [c1, c2]; exact ⟨rfl, rfl⟩) _ _ (a5 t (by omega))
theorem kq_asked {S u : cS} {z : aS} {a b m : Nat} (h : KQ S z) (ha : a < nT z) (hb : b < nT z) (hn : nT z ≤ 602) (hm2 : m < 2000) (hm : m = z.2.2.length) (k17 : kK u 17 = m + 1 ∧ kF u 17 m = nI b ∧ ∀ p, p < m → kF u 17 p = kF S 17 p) (k18 : kK u 18 = m + 1 ∧ kF u 18 m = kF S 16 a ∧ ∀ p, p < m → kF u 18 p = kF S 18 p) (k16 : kK u 16 = nT z ∧ kF u 16 a = nI m ∧ ∀ t, t < nT z → t ≠ a → kF u 16 t = kF S 16 t) : KQ u (asked z a b) := by
  obtain ⟨a1, a2, a3, a4, a5⟩ := h
  obtain ⟨b1, b2, b3⟩ := k17
  obtain ⟨c1, c2, c3⟩ := k18
  obtain ⟨d1, d2, d3⟩ := k16
  have e : (asked z a b).2.2 = (a, b) :: z.2.2 := rfl
  have en : nT (asked z a b) = nT z := rfl
  have st : ∀ bs x, ch S x bs → ch u x bs := ch.to (by omega) (fun p hp => ⟨b3 p (by omega), c3 p (by omega)⟩)
  refine ⟨by rw [e, b1, hm]; rfl, by rw [e, c1, hm]; rfl, by rw [en]; exact d1, by
    rw [e, en]
    intro q hq
    rcases List.mem_cons.mp hq with h | h
    · rw [h]; exact ⟨ha, hb⟩
    · exact a4 q h, fun t ht => ?_⟩
  rw [en] at ht
  unfold ask1
  rw [e]
  by_cases et : t = a
  · subst et
    rw [List.filter_cons_of_pos (by simp), List.map_cons, d2]
    exact ⟨m, rfl, ⟨by omega, hm2⟩, b2, by omega, by rw [c2]; exact st _ _ (a5 t ht)⟩
  · rw [List.filter_cons_of_neg (by simp; exact fun h => et h.symm), d3 t ht et]
    exact st _ _ (a5 t ht)
/-! the copies of a time of asking -/
def KZ (S : cS) : Prop := kK S 23 = 120 ∧ kK S 24 = 120 ∧ kK S 25 = 300 ∧ kK S 26 = 300
def KM (S : cS) (z : aS) (tm : Nat) : Prop := kK S 25 = 300 ∧ kK S 26 = 300 ∧ ∀ i, i < 300 → (memo z i = 0 → kF S 26 i = -9 ∨ ∃ j, j < tm ∧ kF S 26 i = nI j) ∧ (memo z i ≠ 0 → kF S 26 i = nI tm ∧ kF S 25 i = nI (memo z i - 1) ∧ memo z i ≤ nT z)
def KM0 (S : cS) (tm : Nat) : Prop := kK S 25 = 300 ∧ kK S 26 = 300 ∧ ∀ i, i < 300 → kF S 26 i = -9 ∨ ∃ j, j ≤ tm ∧ kF S 26 i = nI j
theorem KM.m0 {S : cS} {z : aS} {tm : Nat} (h : KM S z tm) : KM0 S tm := ⟨h.1, h.2.1, fun i hi => by
  by_cases e : memo z i = 0
  · rcases (h.2.2 i hi).1 e with h1 | ⟨j, hj, h1⟩
    · exact Or.inl h1
    · exact Or.inr ⟨j, by omega, h1⟩
  · exact Or.inr ⟨tm, Nat.le_refl _, ((h.2.2 i hi).2 e).1⟩⟩
theorem KM0.ml {S : cS} {z : aS} {tm : Nat} (h : KM0 S tm) : KM S (newTime z) (tm + 1) := ⟨h.1, h.2.1, fun i hi => ⟨fun _ => by
  rcases h.2.2 i hi with h1 | ⟨j, hj, h1⟩
  · exact Or.inl h1
  · exact Or.inr ⟨j, by omega, h1⟩, fun e => absurd (show memo (newTime z) i = 0 from rfl) e⟩⟩
theorem KM0.aw {rs is : List Nat} {S u : cS} {tm : Nat} (h : KM0 S tm) (a : AW rs is S u) (hr : ∀ r ∈ [25, 26], r ∉ rs) : KM0 u tm := by
  obtain ⟨f25, k25⟩ := a.2.1 25 (lt35 (by decide)) (hr 25 (by decide))
  obtain ⟨f26, k26⟩ := a.2.1 26 (lt35 (by decide)) (hr 26 (by decide))
  exact ⟨k25.trans h.1, k26.trans h.2.1, fun i hi => by rw [f26]; exact h.2.2 i hi⟩
theorem KM.aw {rs is : List Nat} {S u : cS} {z z' : aS} {tm : Nat} (h : KM S z tm) (a : AW rs is S u) (hr : ∀ r ∈ [25, 26], r ∉ rs) (e : ∀ i, memo z' i = memo z i) (hn : nT z ≤ nT z') : KM u z' tm := by
  obtain ⟨f25, k25⟩ := a.2.1 25 (lt35 (by decide)) (hr 25 (by decide))
  obtain ⟨f26, k26⟩ := a.2.1 26 (lt35 (by decide)) (hr 26 (by decide))
  refine ⟨k25.trans h.1, k26.trans h.2.1, fun i hi => ?_⟩
  rw [f26, f25, e]
  obtain ⟨h1, h2⟩ := h.2.2 i hi
  exact ⟨h1, fun h => ⟨(h2 h).1, (h2 h).2.1, by have := (h2 h).2.2; omega⟩⟩
theorem KM.new {S u : cS} {z z' : aS} {tm q : Nat} (h : KM S z tm) (k25 : kK u 25 = 300 ∧ kF u 25 q = nI (nT z) ∧ ∀ i, i ≠ q → kF u 25 i = kF S 25 i) (k26 : kK u 26 = 300 ∧ kF u 26 q = nI tm ∧ ∀ i, i ≠ q → kF u 26 i = kF S 26 i) (hm : ∀ i, memo z' i = if i = q then nT z + 1 else memo z i) (hn : nT z + 1 ≤ nT z') : KM u z' tm := by
  refine ⟨k25.1, k26.1, fun i hi => ?_⟩
  rw [hm]
  by_cases e : i = q
  · subst e
    rw [if_pos rfl, k25.2.1, k26.2.1]
    exact ⟨fun h => absurd h (by omega), fun _ => ⟨rfl, rfl, hn⟩⟩
  · rw [if_neg e, k25.2.2 i e, k26.2.2 i e]
    obtain ⟨h1, h2⟩ := h.2.2 i hi
    exact ⟨h1, fun h => ⟨(h2 h).1, (h2 h).2.1, by have := (h2 h).2.2; omega⟩⟩
theorem sc_neg {n : Nat} (h : n ≠ 0) : sc n < 0 := by
  unfold sc
  rw [if_neg h]
  split
  · decide
  · decide
/-! more of what is read -/
theorem imax {a b : Nat} (ha : a < 2 ^ 31) (hb : b < 2 ^ 31) : (if nI a < nI b then nI b else nI a) = nI (max a b) := by
  by_cases h : a < b
  · rw [if_pos ((nI_ltI ha hb).mpr h), Nat.max_eq_right (Nat.le_of_lt h)]
  · rw [if_neg (fun z => h ((nI_ltI ha hb).mp z)), Nat.max_eq_left (Nat.not_lt.mp h)]
theorem KT.lab {S : cS} {z : aS} {t i : Nat} (h : KT S z) (ht : t < nT z) (h1 : srt z t = 2) (hi : i < (parts z t).length) : rget (kF S 10) (kK S 10) (rget (kF S 8) (kK S 8) (nI t) + nI i) = nI ((labs z t).getD i 0) ∧ rget (kF S 11) (kK S 11) (rget (kF S 8) (kK S 8) (nI t) + nI i) = nI ((parts z t).getD i 0) ∧ (parts z t).getD i 0 < nT z ∧ (labs z t).getD i 0 < 26 := by
  obtain ⟨b, g1, g2, g3, g4, g5, g6⟩ := h.f2 ht h1
  rw [g1, nI_add]
  exact g6 i hi
theorem KT.cnt {S : cS} {z : aS} {t : Nat} (h : KT S z) (ht : t < nT z) (h1 : srt z t = 2) : rget (kF S 9) (kK S 9) (nI t) = nI (parts z t).length ∧ (labs z t).length = (parts z t).length ∧ (parts z t).length ≤ 6 := by
  obtain ⟨b, g1, g2, g3, g4, g5, g6⟩ := h.f2 ht h1
  exact ⟨g2, g3, g4⟩
theorem KT.is {S : cS} {z : aS} {t k : Nat} (h : KT S z) (ht : t < nT z) (hk : 2 ≤ k) (hk2 : k ≤ 4) : rget (kF S 6) (kK S 6) (nI t) = nI k ↔ srt z t + 1 = k := by
  rw [h.rs ht]
  exact ks_2 (h.s3 ht) hk hk2
def pbo : Option Nat → Int32
  | none => -9
  | some q => nI q
def pby (z : aS) (t x : Nat) : Int32 := pbo (partBy (labs z t) (parts z t) x)
theorem partBy_s {ls ps : List Nat} {i x : Nat} (hi : i < ps.length) (hl : ls.length = ps.length) : partBy (ls.drop i) (ps.drop i) x = if ls.getD i 0 = x then some (ps.getD i 0) else partBy (ls.drop (i + 1)) (ps.drop (i + 1)) x := by
  rw [drop_cons hi, drop_cons (show i < ls.length by omega), partBy]
theorem partBy_n {ls ps : List Nat} {i x : Nat} (hi : ps.length ≤ i) : partBy (ls.drop i) (ps.drop i) x = none := by
  rw [List.drop_eq_nil_of_le hi]
  cases ls.drop i <;> rfl
theorem pby_of {z : aS} {t x : Nat} {o : Option Nat} (h : partBy (labs z t) (parts z t) x = o) : pby z t x = pbo o := congrArg pbo h
theorem ch_9 {S : cS} {bs : List Nat} (h : ch S (-9) bs) : bs = [] := by
  cases bs with
  | nil => rfl
  | cons b bs =>
    obtain ⟨p, h1, h2, -⟩ := h
    exact absurd h1.symm (nI_neg (by decide) (by omega))
theorem ch_c {S : cS} {bs : List Nat} {x : Int32} (h : ch S x bs) (hx : ¬ x = -9) : ∃ b bs' p, bs = b :: bs' ∧ x = nI p ∧ (p < kK S 17 ∧ p < 2000) ∧ kF S 17 p = nI b ∧ b < 1000 ∧ ch S (kF S 18 p) bs' := by
  cases bs with
  | nil => exact absurd h hx
  | cons b bs =>
    obtain ⟨p, h1, h2, h3, h4, h5⟩ := h
    exact ⟨b, bs, p, rfl, h1, h2, h3, h4, h5⟩
theorem lmax_tk {S : cS} {z : aS} {ps : List Nat} {q : Nat} (h : KT S z) (hps : ∀ i, i < ps.length → ps.getD i 0 < nT z) (hq : q ≤ ps.length) : lmax z (ps.take q) ≤ 100 := lmax_100 h (fun i hi => by
  have h1 : i < q := by
    rw [List.length_take] at hi
    omega
  have e : (ps.take q).getD i 0 = ps.getD i 0 := by
    rw [List.getD_eq_getElem?_getD, List.getD_eq_getElem?_getD, List.getElem?_take_of_lt h1]
  rw [e]
  exact hps i (by omega))
theorem AD.to {S S1 u : cS} {T : Nat} {a b c d : Int32} (h : AD S S1 T a b c d) (e6 : kF u 6 = kF S1 6 ∧ kK u 6 = kK S1 6) (e7 : kF u 7 = kF S1 7 ∧ kK u 7 = kK S1 7) (e8 : kF u 8 = kF S1 8 ∧ kK u 8 = kK S1 8) (e9 : kF u 9 = kF S1 9 ∧ kK u 9 = kK S1 9) : AD S u T a b c d := by
  unfold AD
  rw [e6.1, e6.2, e7.1, e7.2, e8.1, e8.2, e9.1, e9.2]
  exact h
theorem ks_or {S : cS} {z : aS} {t : Nat} (h : KT S z) (ht : t < nT z) : (srt z t = 0 ∧ ks z t < 2 ∧ ks z t = t) ∨ (srt z t ≠ 0 ∧ srt z t ≤ 3 ∧ ks z t = srt z t + 1) := by
  obtain ⟨h1, h2⟩ := h.s3 ht
  unfold ks
  by_cases e : srt z t = 0
  · rw [if_pos e]
    exact Or.inl ⟨e, (h2 e).2, rfl⟩
  · rw [if_neg e]
    exact Or.inr ⟨e, h1, rfl⟩
theorem KT.ks4 {S : cS} {z : aS} {t : Nat} (h : KT S z) (ht : t < nT z) : ks z t ≤ 4 := by
  have := ks_or h ht
  omega
theorem KT.k1 {S : cS} {z : aS} {t : Nat} (h : KT S z) (ht : t < nT z) (hk : ks z t = 2) : srt z t = 1 := by
  have := ks_or h ht
  omega
theorem KT.k2 {S : cS} {z : aS} {t : Nat} (h : KT S z) (ht : t < nT z) (hk : ks z t = 3) : srt z t = 2 := by
  have := ks_or h ht
  omega
theorem KT.k3 {S : cS} {z : aS} {t ab : Nat} (h : KT S z) (ht : t < nT z) (h2 : ¬ ks z t = 2) (h3 : ¬ ks z t = 3) (hl : ¬ lev z t ≤ ab) : srt z t = 3 := by
  have h4 := ks_or h ht
  have h5 := (h.s3 ht).2
  by_cases e : srt z t = 0
  · have := (h5 e).1
    omega
  · omega
