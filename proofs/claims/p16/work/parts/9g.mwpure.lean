/-! ===== WORKING in the second program: values and what is seen, as far as indices need ===== -/
def EO (es : Nat) (x : Int32) : Prop := x = -9 ∨ ∃ j, j < es ∧ x = nI j
theorem EO.mono {a b : Nat} {x : Int32} (h : EO a x) (hab : a ≤ b) : EO b x := h.imp id (fun ⟨j, h1, h2⟩ => ⟨j, by omega, h2⟩)
def VO (tr : aM) (N : Nat) (gd : Nat → Prop) (es v : Nat) (F : Nat → Nat → Int32) : Prop := (F 52 v = 0 ∨ F 52 v = 1) ∨ (F 52 v = 2 ∧ ∃ m, m < N ∧ tr 0 m = 3 ∧ F 53 v = nI m ∧ EO es (F 54 v)) ∨ (F 52 v = 3 ∧ ∃ m, m < N ∧ tr 0 m = 5 ∧ F 53 v = nI m ∧ F 54 v = nI (tr 2 m) ∧ ∀ k, k < tr 2 m → ∃ w, gd w ∧ F 55 (6 * v + k) = nI w)
def EK (tr : aM) (N : Nat) (gd : Nat → Prop) (k : Nat) (F : Nat → Nat → Int32) : Prop := EO k (F 60 k) ∧ ((F 59 k = -9 ∧ ∃ w, gd w ∧ F 58 k = nI w) ∨ ∃ m, m < N ∧ tr 0 m = 8 ∧ F 59 k = nI m)
def WS (tr : aM) (N : Nat) (gd : Nat → Prop) (vs es wk ms : Nat) (o : Nat → Int32) (F : Nat → Nat → Int32) : Prop := (o 51 = nI vs ∧ o 56 = nI es ∧ o 62 = nI wk ∧ o 63 = nI ms ∧ wk ≤ ms ∧ ms ≤ 300) ∧ (o 67 = 0 → o 61 ≠ 0) ∧ (∀ v, gd v → v < vs ∧ VO tr N gd es v F) ∧ ∀ k, k < es → EK tr N gd k F
/-- values that there were stay -/
def FV (vs : Nat) (F F' : Nat → Nat → Int32) : Prop := ∀ v, v < vs → F' 52 v = F 52 v ∧ F' 53 v = F 53 v ∧ F' 54 v = F 54 v ∧ ∀ k, k < 6 → F' 55 (6 * v + k) = F 55 (6 * v + k)
abbrev LW : List Nat := [51, 52, 53, 54, 55, 56, 57, 58, 59, 60, 61, 62, 64, 65, 67]
def WK (tr : aM) (N : Nat) (gd : Nat → Prop) (vs es wk ms cv ce : Nat) (o : Nat → Int32) (F : Nat → Nat → Int32) (gd1 : Nat → Prop) (vs1 es1 d : Nat) (u : mS) : Prop := ((∀ v, gd v → gd1 v) ∧ ∀ v, gd1 v → gd v ∨ vs ≤ v) ∧ vs ≤ vs1 ∧ vs1 ≤ vs + d + cv ∧ es ≤ es1 ∧ es1 ≤ es + d + ce ∧ WS tr N gd1 vs1 es1 (wk + d) ms u.1 u.2 ∧ u.1 64 = o 64 ∧ (u.1 67 ≠ 0 → o 67 ≠ 0) ∧ Kq LW o F u ∧ FV vs F u.2
theorem WK.rf {tr : aM} {N : Nat} {gd : Nat → Prop} {vs es wk ms : Nat} {o : Nat → Int32} {F : Nat → Nat → Int32} (h : WS tr N gd vs es wk ms o F) : WK tr N gd vs es wk ms 0 0 o F gd vs es 0 (o, F) := ⟨⟨fun _ h => h, fun _ h => Or.inl h⟩, Nat.le_refl _, Nat.le_refl _, Nat.le_refl _, Nat.le_refl _, h, rfl, id, Kq.rf, fun _ _ => ⟨rfl, rfl, rfl, fun _ _ => rfl⟩⟩
theorem WK.tr {tr : aM} {N : Nat} {gd gd1 gd2 : Nat → Prop} {vs es wk ms cv ce vs1 es1 d vs2 es2 d2 cv2 ce2 : Nat} {o o1 : Nat → Int32} {F F1 : Nat → Nat → Int32} {u : mS} (h : WK tr N gd vs es wk ms cv ce o F gd1 vs1 es1 d (o1, F1)) (h' : WK tr N gd1 vs1 es1 (wk + d) ms cv2 ce2 o1 F1 gd2 vs2 es2 d2 u) : WK tr N gd vs es wk ms (cv + cv2) (ce + ce2) o F gd2 vs2 es2 (d + d2) u := by
  obtain ⟨a1, a2, a3, a4, a5, a6, a7, a8, a9, a10⟩ := h
  obtain ⟨b1, b2, b3, b4, b5, b6, b7, b8, b9, b10⟩ := h'
  refine ⟨⟨fun v h => b1.1 v (a1.1 v h), fun v h => (b1.2 v h).elim (a1.2 v) (fun h => Or.inr (by omega))⟩, by omega, by omega, by omega, by omega, ?_, b7.trans a7, fun h => a8 (b8 h), a9.tr b9, fun v hv => ?_⟩
  · rw [← Nat.add_assoc]
    exact b6
  · obtain ⟨c1, c2, c3, c4⟩ := a10 v hv
    obtain ⟨e1, e2, e3, e4⟩ := b10 v (by omega)
    exact ⟨e1.trans c1, e2.trans c2, e3.trans c3, fun k hk => (e4 k hk).trans (c4 k hk)⟩
theorem VO.keep {tr : aM} {N : Nat} {gd gd1 : Nat → Prop} {es es1 v : Nat} {F F1 : Nat → Nat → Int32} (h : VO tr N gd es v F) (hT : ∀ m, m < N → tr 2 m ≤ 6) (hg : ∀ v, gd v → gd1 v) (he : es ≤ es1) (e52 : F1 52 v = F 52 v) (e53 : F1 53 v = F 53 v) (e54 : F1 54 v = F 54 v) (e55 : ∀ k, k < 6 → F1 55 (6 * v + k) = F 55 (6 * v + k)) : VO tr N gd1 es1 v F1 := by
  unfold VO
  rw [e52, e53, e54]
  rcases h with h | ⟨h, m, h1, h2, h3, h4⟩ | ⟨h, m, h1, h2, h3, h4, h5⟩
  · exact Or.inl h
  · exact Or.inr (Or.inl ⟨h, m, h1, h2, h3, h4.mono he⟩)
  · refine Or.inr (Or.inr ⟨h, m, h1, h2, h3, h4, fun k hk => ?_⟩)
    obtain ⟨w, h6, h7⟩ := h5 k hk
    have := hT m h1
    exact ⟨w, hg w h6, (e55 k (by omega)).trans h7⟩
theorem EK.keep {tr : aM} {N : Nat} {gd gd1 : Nat → Prop} {k : Nat} {F F1 : Nat → Nat → Int32} (h : EK tr N gd k F) (hg : ∀ v, gd v → gd1 v) (e58 : F1 58 k = F 58 k) (e59 : F1 59 k = F 59 k) (e60 : F1 60 k = F 60 k) : EK tr N gd1 k F1 := by
  unfold EK
  rw [e58, e59, e60]
  obtain ⟨h1, h2⟩ := h
  refine ⟨h1, h2.imp (fun ⟨a, w, b, c⟩ => ⟨a, w, hg w b, c⟩) id⟩
theorem WS.made {tr : aM} {N : Nat} {gd gd1 : Nat → Prop} {vs es wk ms : Nat} {o : Nat → Int32} {F : Nat → Nat → Int32} {x y w9 : Int32} (h : WS tr N gd vs es wk ms o F) (hT : ∀ m, m < N → tr 2 m ≤ 6) (hg : ∀ v, gd v → gd1 v) (hg2 : ∀ v, gd1 v → gd v ∨ v = vs) (hs : gd1 vs → (x = 0 ∨ x = 1) ∨ (x = 2 ∧ ∃ m, m < N ∧ tr 0 m = 3 ∧ y = nI m ∧ EO es w9)) : WS tr N gd1 (vs + 1) es wk ms (upd o 51 (nI (vs + 1))) (fput (fput (fput F 52 vs x) 53 vs y) 54 vs w9) := by
  obtain ⟨⟨a1, a2, a3, a4, a5, a6⟩, b, c, d⟩ := h
  refine ⟨⟨rfl, a2, a3, a4, a5, a6⟩, b, fun v hv => ?_, fun k hk => (d k hk).keep hg rfl rfl rfl⟩
  rcases Nat.lt_or_ge v vs with hlt | hge
  · rcases hg2 v hv with h1 | h1
    · refine ⟨by omega, (c v h1).2.keep hT hg (Nat.le_refl _) ?_ ?_ ?_ ?_⟩
      · rw [fput_k (by decide), fput_k (by decide), fput_j (by omega)]
      · rw [fput_k (by decide), fput_j (by omega), fput_k (by decide)]
      · rw [fput_j (by omega), fput_k (by decide), fput_k (by decide)]
      · intro k _
        rw [fput_k (by decide), fput_k (by decide), fput_k (by decide)]
    · omega
  · rcases hg2 v hv with h1 | h1
    · have := (c v h1).1
      omega
    · subst h1
      refine ⟨by omega, ?_⟩
      unfold VO
      have e52 : fput (fput (fput F 52 v x) 53 v y) 54 v w9 52 v = x := by rw [fput_k (by decide), fput_k (by decide), fput_s]
      have e53 : fput (fput (fput F 52 v x) 53 v y) 54 v w9 53 v = y := by rw [fput_k (by decide), fput_s]
      have e54 : fput (fput (fput F 52 v x) 53 v y) 54 v w9 54 v = w9 := fput_s
      rw [e52, e53, e54]
      rcases hs hv with h1 | h1
      · exact Or.inl h1
      · exact Or.inr (Or.inl h1)
theorem WK.made {tr : aM} {N : Nat} {gd gd1 gd2 : Nat → Prop} {vs es wk ms cv ce vs1 es1 d : Nat} {o o1 : Nat → Int32} {F F1 : Nat → Nat → Int32} {u : mS} {x y w9 : Int32} (h : WK tr N gd vs es wk ms cv ce o F gd1 vs1 es1 d (o1, F1)) (hT : ∀ m, m < N → tr 2 m ≤ 6) (hg : ∀ v, gd1 v → gd2 v) (hg2 : ∀ v, gd2 v → gd1 v ∨ v = vs1) (hs : gd2 vs1 → (x = 0 ∨ x = 1) ∨ (x = 2 ∧ ∃ m, m < N ∧ tr 0 m = 3 ∧ y = nI m ∧ EO es1 w9)) (hu : u = (upd o1 51 (nI (vs1 + 1)), fput (fput (fput F1 52 vs1 x) 53 vs1 y) 54 vs1 w9)) : WK tr N gd vs es wk ms (cv + 1) ce o F gd2 (vs1 + 1) es1 d u := by
  obtain ⟨a1, a2, a3, a4, a5, a6, a7, a8, a9, a10⟩ := h
  subst hu
  refine ⟨⟨fun v h => hg v (a1.1 v h), fun v h => (hg2 v h).elim (a1.2 v) (fun h => Or.inr (by omega))⟩, by omega, by omega, a4, a5, a6.made hT hg hg2 hs, a7, a8, ((((a9.o (by decide)).F (by decide)).F (by decide)).F (by decide)), fun v hv => ?_⟩
  obtain ⟨c1, c2, c3, c4⟩ := a10 v hv
  refine ⟨?_, ?_, ?_, fun k hk => ?_⟩
  · show fput (fput (fput F1 52 vs1 x) 53 vs1 y) 54 vs1 w9 52 v = _
    rw [fput_k (by decide), fput_k (by decide), fput_j (by omega)]
    exact c1
  · show fput (fput (fput F1 52 vs1 x) 53 vs1 y) 54 vs1 w9 53 v = _
    rw [fput_k (by decide), fput_j (by omega), fput_k (by decide)]
    exact c2
  · show fput (fput (fput F1 52 vs1 x) 53 vs1 y) 54 vs1 w9 54 v = _
    rw [fput_j (by omega), fput_k (by decide), fput_k (by decide)]
    exact c3
  · show fput (fput (fput F1 52 vs1 x) 53 vs1 y) 54 vs1 w9 55 _ = _
    rw [fput_k (by decide), fput_k (by decide), fput_k (by decide)]
    exact c4 k hk
theorem WK.env {tr : aM} {N : Nat} {gd gd1 : Nat → Prop} {vs es wk ms cv ce vs1 es1 d : Nat} {o o1 : Nat → Int32} {F F1 : Nat → Nat → Int32} {u : mS} {x y w9 nx : Int32} (h : WK tr N gd vs es wk ms cv ce o F gd1 vs1 es1 d (o1, F1)) (hT : ∀ m, m < N → tr 2 m ≤ 6) (hn : EO es1 nx) (hc : (w9 = -9 ∧ ∃ w, gd1 w ∧ y = nI w) ∨ ∃ m, m < N ∧ tr 0 m = 8 ∧ w9 = nI m) (hu : u = (upd o1 56 (nI (es1 + 1)), fput (fput (fput (fput F1 57 es1 x) 58 es1 y) 59 es1 w9) 60 es1 nx)) : WK tr N gd vs es wk ms cv (ce + 1) o F gd1 vs1 (es1 + 1) d u := by
  obtain ⟨a1, a2, a3, a4, a5, a6, a7, a8, a9, a10⟩ := h
  subst hu
  have f5 : ∀ k, k ≠ 57 → k ≠ 58 → k ≠ 59 → k ≠ 60 → ∀ j, fput (fput (fput (fput F1 57 es1 x) 58 es1 y) 59 es1 w9) 60 es1 nx k j = F1 k j := fun k h1 h2 h3 h4 j => by
    rw [fput_k h4, fput_k h3, fput_k h2, fput_k h1]
  obtain ⟨⟨b1, b2, b3, b4, b5, b6⟩, b, c, e⟩ := a6
  refine ⟨a1, a2, a3, by omega, by omega, ⟨⟨b1, rfl, b3, b4, b5, b6⟩, b, fun v hv => ?_, fun k hk => ?_⟩, a7, a8, (((((a9.o (by decide)).F (by decide)).F (by decide)).F (by decide)).F (by decide)), fun v hv => ?_⟩
  · obtain ⟨c1, c2⟩ := c v hv
    exact ⟨c1, c2.keep hT (fun _ h => h) (Nat.le_succ _) (f5 52 (by decide) (by decide) (by decide) (by decide) _) (f5 53 (by decide) (by decide) (by decide) (by decide) _) (f5 54 (by decide) (by decide) (by decide) (by decide) _) (fun k _ => f5 55 (by decide) (by decide) (by decide) (by decide) _)⟩
  · rcases Nat.lt_or_ge k es1 with hlt | hge
    · refine (e k hlt).keep (fun _ h => h) ?_ ?_ ?_
      · show fput (fput (fput (fput F1 57 es1 x) 58 es1 y) 59 es1 w9) 60 es1 nx 58 k = _
        rw [fput_k (by decide), fput_k (by decide), fput_j (by omega), fput_k (by decide)]
      · show fput (fput (fput (fput F1 57 es1 x) 58 es1 y) 59 es1 w9) 60 es1 nx 59 k = _
        rw [fput_k (by decide), fput_j (by omega), fput_k (by decide), fput_k (by decide)]
      · show fput (fput (fput (fput F1 57 es1 x) 58 es1 y) 59 es1 w9) 60 es1 nx 60 k = _
        rw [fput_j (by omega), fput_k (by decide), fput_k (by decide), fput_k (by decide)]
    · obtain rfl : k = es1 := by omega
      unfold EK
      have e58 : fput (fput (fput (fput F1 57 k x) 58 k y) 59 k w9) 60 k nx 58 k = y := by rw [fput_k (by decide), fput_k (by decide), fput_s]
      have e59 : fput (fput (fput (fput F1 57 k x) 58 k y) 59 k w9) 60 k nx 59 k = w9 := by rw [fput_k (by decide), fput_s]
      have e60 : fput (fput (fput (fput F1 57 k x) 58 k y) 59 k w9) 60 k nx 60 k = nx := fput_s
      show EO k (fput (fput (fput (fput F1 57 k x) 58 k y) 59 k w9) 60 k nx 60 k) ∧ _
      rw [e60]
      refine ⟨hn, ?_⟩
      show (fput (fput (fput (fput F1 57 k x) 58 k y) 59 k w9) 60 k nx 59 k = -9 ∧ ∃ w, gd1 w ∧ fput (fput (fput (fput F1 57 k x) 58 k y) 59 k w9) 60 k nx 58 k = nI w) ∨ ∃ m, m < N ∧ tr 0 m = 8 ∧ fput (fput (fput (fput F1 57 k x) 58 k y) 59 k w9) 60 k nx 59 k = nI m
      rw [e58, e59]
      exact hc
  · obtain ⟨c1, c2, c3, c4⟩ := a10 v hv
    exact ⟨(f5 52 (by decide) (by decide) (by decide) (by decide) _).trans c1, (f5 53 (by decide) (by decide) (by decide) (by decide) _).trans c2, (f5 54 (by decide) (by decide) (by decide) (by decide) _).trans c3, fun k hk => (f5 55 (by decide) (by decide) (by decide) (by decide) _).trans (c4 k hk)⟩
theorem WK.halt {tr : aM} {N : Nat} {gd gd1 : Nat → Prop} {vs es wk ms cv ce vs1 es1 d : Nat} {o o1 : Nat → Int32} {F F1 : Nat → Nat → Int32} {u : mS} {x y : Int32} (h : WK tr N gd vs es wk ms cv ce o F gd1 vs1 es1 d (o1, F1)) (hx : x ≠ 0) (hu : u = (if o1 67 = 0 then o1 else upd (upd (upd o1 67 0) 61 x) 65 y, F1)) : WK tr N gd vs es wk ms cv ce o F gd1 vs1 es1 d u ∧ u.1 67 = 0 := by
  by_cases h0 : o1 67 = 0
  · rw [if_pos h0] at hu
    subst hu
    exact ⟨h, h0⟩
  · rw [if_neg h0] at hu
    subst hu
    obtain ⟨a1, a2, a3, a4, a5, ⟨⟨b1, b2, b3, b4, b5, b6⟩, b, c, e⟩, a7, a8, a9, a10⟩ := h
    exact ⟨⟨a1, a2, a3, a4, a5, ⟨⟨b1, b2, b3, b4, b5, b6⟩, fun _ => hx, c, e⟩, a7, fun h => absurd rfl h, (((a9.o (by decide)).o (by decide)).o (by decide)), a10⟩, rfl⟩
/-- a field of a record that is not whole yet -/
theorem WK.prt {tr : aM} {N : Nat} {gd gd1 : Nat → Prop} {vs es wk ms cv ce vs1 es1 d : Nat} {o o1 : Nat → Int32} {F F1 : Nat → Nat → Int32} {q i : Nat} {x : Int32} (h : WK tr N gd vs es wk ms cv ce o F gd1 vs1 es1 d (o1, F1)) (hT : ∀ m, m < N → tr 2 m ≤ 6) (hq : vs ≤ q) (hi : i < 6) (hg : ¬ gd1 q) : WK tr N gd vs es wk ms cv ce o F gd1 vs1 es1 d (o1, fput F1 55 (6 * q + i) x) := by
  obtain ⟨a1, a2, a3, a4, a5, ⟨b0, b, c, e⟩, a7, a8, a9, a10⟩ := h
  refine ⟨a1, a2, a3, a4, a5, ⟨b0, b, fun v hv => ?_, fun k hk => (e k hk).keep (fun _ h => h) rfl rfl rfl⟩, a7, a8, a9.F (by decide), fun v hv => ?_⟩
  · obtain ⟨c1, c2⟩ := c v hv
    have hne : v ≠ q := fun z => hg (z ▸ hv)
    exact ⟨c1, c2.keep hT (fun _ h => h) (Nat.le_refl _) rfl rfl rfl (fun k hk => show fput F1 55 (6 * q + i) x 55 (6 * v + k) = F1 55 (6 * v + k) from fput_j (by omega))⟩
  · obtain ⟨c1, c2, c3, c4⟩ := a10 v hv
    exact ⟨c1, c2, c3, fun k hk => (show fput F1 55 (6 * q + i) x 55 (6 * v + k) = F1 55 (6 * v + k) from fput_j (by omega)).trans (c4 k hk)⟩
/-- a record is whole -/
theorem WK.whole {tr : aM} {N : Nat} {gd gd1 : Nat → Prop} {vs es wk ms cv ce vs1 es1 d : Nat} {o o1 : Nat → Int32} {F F1 : Nat → Nat → Int32} {q n : Nat} (h : WK tr N gd vs es wk ms cv ce o F gd1 vs1 es1 d (o1, F1)) (hT : ∀ m, m < N → tr 2 m ≤ 6) (hq : q < vs1) (hqv : vs ≤ q) (hn : n < N) (h5 : tr 0 n = 5) (e52 : F1 52 q = 3) (e53 : F1 53 q = nI n) (e54 : F1 54 q = nI (tr 2 n)) (e55 : ∀ k, k < tr 2 n → ∃ w, gd1 w ∧ F1 55 (6 * q + k) = nI w) : WK tr N gd vs es wk ms cv ce o F (fun v => gd1 v ∨ v = q) vs1 es1 d (o1, F1) := by
  obtain ⟨a1, a2, a3, a4, a5, ⟨b0, b, c, e⟩, a7, a8, a9, a10⟩ := h
  refine ⟨⟨fun v h => Or.inl (a1.1 v h), fun v h => h.elim (a1.2 v) (fun h => Or.inr (by omega))⟩, a2, a3, a4, a5, ⟨b0, b, fun v hv => ?_, fun k hk => (e k hk).keep (fun _ h => Or.inl h) rfl rfl rfl⟩, a7, a8, a9, a10⟩
  rcases hv with hv | hv
  · obtain ⟨c1, c2⟩ := c v hv
    exact ⟨c1, c2.keep hT (fun _ h => Or.inl h) (Nat.le_refl _) rfl rfl rfl (fun k hk => rfl)⟩
  · subst hv
    refine ⟨hq, Or.inr (Or.inr ⟨e52, n, hn, h5, e53, e54, fun k hk => ?_⟩)⟩
    obtain ⟨w, h1, h2⟩ := e55 k hk
    exact ⟨w, Or.inl h1, h2⟩
/-- what a working answers -/
def WQ (tr : aM) (N : Nat) (gd : Nat → Prop) (vs es wk ms c : Nat) (o : Nat → Int32) (F : Nat → Nat → Int32) (r : Int32) (u : mS) : Prop := ∃ gd1 vs1 es1 d cv ce, cv ≤ c ∧ ce ≤ c ∧ WK tr N gd vs es wk ms cv ce o F gd1 vs1 es1 d u ∧ (u.1 67 ≠ 0 → ∃ w, gd1 w ∧ r = nI w)
/-- the latest work()'s VALUE, as far as telling it needs -/
def VT (gd : Nat → Prop) (v : Nat) (F : Nat → Nat → Int32) : Prop := F 52 v = 0 ∨ F 52 v = 1 ∨ F 52 v = 2 ∨ (F 52 v = 3 ∧ ∃ m c, m < 120 ∧ c ≤ 6 ∧ F 53 v = nI m ∧ F 54 v = nI c ∧ ∀ k, k < c → ∃ w, gd w ∧ F 55 (6 * v + k) = nI w)
def WV (o : Nat → Int32) (F : Nat → Nat → Int32) : Prop := o 61 = 0 → ∃ gd : Nat → Prop, (∃ w, gd w ∧ o 66 = nI w) ∧ ∀ v, gd v → v < 400 ∧ VT gd v F
theorem WV.keep {o o1 : Nat → Int32} {F F1 : Nat → Nat → Int32} (h : WV o F) (e61 : o1 61 = o 61) (e66 : o1 66 = o 66) (e52 : F1 52 = F 52) (e53 : F1 53 = F 53) (e54 : F1 54 = F 54) (e55 : F1 55 = F 55) : WV o1 F1 := by
  intro h0
  rw [e61] at h0
  obtain ⟨gd, h1, h2⟩ := h h0
  refine ⟨gd, by rw [e66]; exact h1, fun v hv => ?_⟩
  unfold VT
  rw [e52, e53, e54, e55]
  exact h2 v hv
theorem LW7 {k : Nat} (h : k < 7) : k ∉ LW := by
  simp only [LW, List.mem_cons, List.not_mem_nil, or_false]
  omega
theorem WS.step {tr : aM} {N : Nat} {gd : Nat → Prop} {vs es wk ms : Nat} {o : Nat → Int32} {F : Nat → Nat → Int32} {x : Int32} (h : WS tr N gd vs es wk ms o F) (hne : wk ≠ ms) : WS tr N gd vs es (wk + 1) ms (upd (upd o 62 (nI (wk + 1))) 64 x) F := by
  obtain ⟨⟨a1, a2, a3, a4, a5, a6⟩, b⟩ := h
  exact ⟨⟨a1, a2, rfl, a4, by omega, a6⟩, b⟩
theorem WK.done {tr : aM} {N : Nat} {gd gd1 : Nat → Prop} {vs es wk ms cv ce vs1 es1 d : Nat} {o o2 : Nat → Int32} {F F2 : Nat → Nat → Int32} {x y : Int32} (h : WK tr N gd vs es (wk + 1) ms cv ce (upd (upd o 62 (nI (wk + 1))) 64 x) F gd1 vs1 es1 d (o2, F2)) (h1 : cv ≤ 1) (h2 : ce ≤ 1) (hy : y = o 64) : WK tr N gd vs es wk ms 0 0 o F gd1 vs1 es1 (d + 1) (upd o2 64 y, F2) := by
  obtain ⟨a1, a2, a3, a4, a5, ⟨⟨b1, b2, b3, b4, b5, b6⟩, b, c, e⟩, a7, a8, a9, a10⟩ := h
  refine ⟨a1, a2, by omega, a4, by omega, ⟨⟨b1, b2, ?_, b4, by omega, b6⟩, b, c, e⟩, hy, a8, ?_, a10⟩
  · show o2 62 = _
    rw [show wk + (d + 1) = wk + 1 + d by omega]
    exact b3
  · exact (((Kq.rf.o (by decide)).o (by decide)).tr a9).o (by decide)
theorem mk3 {o o1 : Nat → Int32} {F F1 : Nat → Nat → Int32} {vs : Nat} {x y w9 z : Int32} (hu : (o1, F1) = (upd o 51 z, fput (fput (fput F 52 vs x) 53 vs y) 54 vs w9)) : F1 52 vs = x ∧ F1 53 vs = y ∧ F1 54 vs = w9 := by
  obtain ⟨-, rfl⟩ := Prod.mk.inj hu
  exact ⟨by rw [fput_k (by decide), fput_k (by decide), fput_s], by rw [fput_k (by decide), fput_s], fput_s⟩
theorem WQ.rec {tr : aM} {N : Nat} {gd gd1 : Nat → Prop} {vs es wk ms cv ce vs1 es1 d : Nat} {o o1 : Nat → Int32} {F F1 : Nat → Nat → Int32} {q n i : Nat} (h : WK tr N gd vs es wk ms cv ce o F gd1 vs1 es1 d (o1, F1)) (h1 : cv ≤ 1) (h2 : ce ≤ 1) (hT : ∀ m, m < N → tr 2 m ≤ 6) (hq : q < vs1) (hqv : vs ≤ q) (hn : n < N) (h5 : tr 0 n = 5) (e5 : F1 52 q = 3 ∧ F1 53 q = nI n ∧ F1 54 q = nI (tr 2 n)) (hi : o1 67 ≠ 0 → i = tr 2 n) (e55 : o1 67 ≠ 0 → ∀ k, k < i → ∃ w, gd1 w ∧ F1 55 (6 * q + k) = nI w) : WQ tr N gd vs es wk ms 1 o F (nI q) (o1, F1) := by
  by_cases h0 : o1 67 = 0
  · exact ⟨gd1, vs1, es1, d, cv, ce, h1, h2, h, fun h => absurd h0 h⟩
  · refine ⟨_, vs1, es1, d, cv, ce, h1, h2, h.whole hT hq hqv hn h5 e5.1 e5.2.1 e5.2.2 (fun k hk => e55 h0 k (by have := hi h0; omega)), fun _ => ⟨q, Or.inr rfl, rfl⟩⟩
