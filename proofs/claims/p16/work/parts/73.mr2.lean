/-! ===== the relation kept: a new variable, an arrow, a record, a bound ===== -/
theorem upd_s {f : Nat → Int32} {k : Nat} {x : Int32} : upd f k x k = x := if_pos rfl
theorem upd_n {f : Nat → Int32} {k j : Nat} {x : Int32} (h : j ≠ k) : upd f k x j = f j := if_neg h
theorem Rw.to {b b' n n' q : Nat} {L : List Nat} {X : Nat → Nat} {F F' : Nat → Nat → Int32} (h : Rw b n L X F q) (hb : b ≤ b') (hn : n ≤ n') (e17 : ∀ i, i < b → F' 17 i = F 17 i) (e18 : ∀ i, i < L.length → F' 18 (X i) = F 18 (X i)) (e19 : F' 19 q = F 19 q) (e20 : F' 20 q = F 20 q) (e21 : F' 21 q = F 21 q) : Rw b' n' L X F' q := by
  obtain ⟨h1, h2, h3, h4, h5⟩ := h
  refine ⟨by rw [e21]; exact h1, fun h => by rw [e19]; exact h2 h, fun h => by rw [e19, e20]; exact h3 h, by omega, fun i hi => ?_⟩
  obtain ⟨g1, g2, g3, g4⟩ := h5 i hi
  exact ⟨by omega, by rw [e17 _ g1]; exact g2, by omega, by rw [e18 i hi]; exact g4⟩
theorem RQ.to {s s' : aS} {F F' : Nat → Nat → Int32} (h : RQ s F) (hq : s'.2.2 = s.2.2) (hn : nT s ≤ nT s') (e29 : F' 29 = F 29) (e30 : F' 30 = F 30) : RQ s' F' := by
  intro i hi
  rw [hq] at hi ⊢
  rw [e29, e30]
  obtain ⟨h1, h2, h3, h4⟩ := h i hi
  exact ⟨h1, h2, by omega, by omega⟩
theorem MR.r_newV {s : aS} {ix : Nat → Nat → Nat} {o o' : Nat → Int32} {F F' : Nat → Nat → Int32} {l : Nat} (h : MR s ix o F) (hv : nV s ≠ 150) (ht : nT s ≠ 602) (hl : l ≤ 100)
    (e7 : o' 7 = nI (nT s + 1)) (e14 : o' 14 = nI (nV s + 1)) (eo : o' 16 = o 16 ∧ o' 26 = o 26 ∧ o' 27 = o 27 ∧ o' 24 = o 24 ∧ o' 25 = o 25 ∧ o' 28 = o 28)
    (e8 : F' 8 = upd (F 8) (nT s) (nI 3)) (e9 : F' 9 = upd (F 9) (nT s) (nI l)) (e10 : F' 10 = upd (F 10) (nT s) (nI (nV s))) (e15 : F' 15 = upd (F 15) (nV s) (nI (nT s)))
    (e19 : F' 19 = upd (upd (F 19) (2 * nV s) (-9)) (2 * nV s + 1) (-9)) (e20 : F' 20 = upd (upd (F 20) (2 * nV s) (-9)) (2 * nV s + 1) (-9)) (e21 : F' 21 = upd (upd (F 21) (2 * nV s) (nI 0)) (2 * nV s + 1) (nI 0))
    (ef : F' 11 = F 11 ∧ F' 12 = F 12 ∧ F' 13 = F 13 ∧ F' 17 = F 17 ∧ F' 18 = F 18 ∧ F' 29 = F 29 ∧ F' 30 = F 30) : MR (newV s l) ix o' F' := by
  obtain ⟨⟨a1, a2, a3, a4, a5, a6, a7, a8⟩, ⟨b1, b2, b3, b4, b5, b6, b7, b8⟩, c1, c2, c3, c4, c5, c6, c7⟩ := h
  obtain ⟨o1, o2, o3, o4, o5, o6⟩ := eo
  obtain ⟨f11, f12, f13, f17, f18, f29, f30⟩ := ef
  have hn : nT (newV s l) = nT s + 1 := rfl
  have hV : nV (newV s l) = nV s + 1 := rfl
  have hb : bnd (newV s l) = bnd s := rfl
  have hs : ∀ t, srt (newV s l) t = if t = nT s then 3 else srt s t := fun _ => rfl
  have hle : ∀ t, lev (newV s l) t = if t = nT s then l else lev s t := fun _ => rfl
  have h1 : ∀ t, one (newV s l) t = if t = nT s then nV s else one s t := fun _ => rfl
  have h2 : ∀ t, two (newV s l) t = two s t := fun _ => rfl
  have hp : ∀ t, parts (newV s l) t = parts s t := fun _ => rfl
  have hla : ∀ t, labs (newV s l) t = labs s t := fun _ => rfl
  have h6 : ∀ v, (newV s l).1 6 v = if v = nV s then nT s else s.1 6 v := fun _ => rfl
  have hr : ∀ sd, sd < 2 → ∀ t, row (newV s l) sd t = if t = nT s then [] else row s sd t := by
    intro sd hsd t
    rcases (by omega : sd = 0 ∨ sd = 1) with rfl | rfl
    · rfl
    · rfl
  have hrow : ∀ v, v < nV s → ∀ sd, sd < 2 → row (newV s l) sd ((newV s l).1 6 v) = row s sd (s.1 6 v) := by
    intro v hv sd hsd
    have h3 := (c4.2 v hv).2.1
    rw [h6, if_neg (by omega), hr sd hsd, if_neg (by omega)]
  have hrow0 : ∀ sd, sd < 2 → row (newV s l) sd ((newV s l).1 6 (nV s)) = [] := by
    intro sd hsd
    rw [h6, if_pos rfl, hr sd hsd, if_pos rfl]
  refine ⟨⟨by rw [e7, hn], by rw [e14, hV], by rw [o1]; exact a3, by rw [o2]; exact a4, by rw [o3]; exact a5, by rw [o4]; exact a6, by rw [o5]; exact a7, by rw [o6]; exact a8⟩, ⟨by omega, by omega, b3, b4, b5, b6, b7, by omega⟩, ?_, ?_, ?_, ⟨?_, ?_⟩, ?_, ?_, RQ.to c7 rfl (by omega) f29 f30⟩
  · intro t ht
    rw [hs, hle, e8, e9]
    by_cases e : t = nT s
    · subst e
      rw [upd_s, upd_s, if_pos rfl, if_pos rfl]
      exact ⟨rfl, rfl, ⟨by omega, fun h => absurd h (by omega)⟩, hl⟩
    · rw [upd_n e, upd_n e, if_neg e, if_neg e]
      exact c1 t (by omega)
  · intro t ht h3
    rw [hs] at h3
    by_cases e : t = nT s
    · rw [if_pos e] at h3
      omega
    · rw [if_neg e] at h3
      rw [h1, h2, if_neg e, e10, f11, upd_n e]
      obtain ⟨g1, g2, g3, g4⟩ := c2 t (by omega) h3
      exact ⟨g1, g2, by omega, by omega⟩
  · intro t ht h3
    rw [hs] at h3
    by_cases e : t = nT s
    · rw [if_pos e] at h3
      omega
    · rw [if_neg e] at h3
      rw [hp, hla, e10, upd_n e, f12, f13, hn]
      obtain ⟨g1, g2, g3, g4⟩ := c3 t (by omega) h3
      refine ⟨g1, g2, g3, fun i hi => ?_⟩
      obtain ⟨k1, k2, k3, k4⟩ := g4 i hi
      exact ⟨k1, k2, by omega, k4⟩
  · intro t ht h3
    rw [hs] at h3
    rw [h1, e10, hV, h6]
    by_cases e : t = nT s
    · subst e
      rw [upd_s, if_pos rfl, if_pos rfl]
      exact ⟨rfl, by omega, rfl⟩
    · rw [if_neg e] at h3
      rw [upd_n e, if_neg e]
      obtain ⟨g1, g2, g3⟩ := c4.1 t (by omega) h3
      rw [if_neg (by omega)]
      exact ⟨g1, by omega, g3⟩
  · intro v hv'
    rw [h6, e15, hn]
    by_cases e : v = nV s
    · subst e
      rw [upd_s, if_pos rfl, hs, h1, if_pos rfl, if_pos rfl]
      exact ⟨rfl, by omega, rfl, rfl⟩
    · obtain ⟨g1, g2, g3, g4⟩ := c4.2 v (by omega)
      rw [upd_n e, if_neg e, hs, h1, if_neg (by omega), if_neg (by omega)]
      exact ⟨g1, by omega, g3, g4⟩
  · intro v hv' sd hsd
    rw [hb, hn]
    by_cases e : v = nV s
    · subst e
      rw [hrow0 sd hsd]
      refine ⟨?_, fun _ => ?_, fun h => by simp at h, Nat.zero_le _, fun i hi => by simp at hi⟩
      · rw [e21]
        rcases (by omega : sd = 0 ∨ sd = 1) with rfl | rfl
        · rw [upd_n (by omega)]
          exact upd_s
        · exact upd_s
      · rw [e19]
        rcases (by omega : sd = 0 ∨ sd = 1) with rfl | rfl
        · rw [upd_n (by omega)]
          exact upd_s
        · exact upd_s
    · rw [hrow v (by omega) sd hsd]
      refine (c5 v (by omega) sd hsd).to (Nat.le_refl _) (by omega) (fun i _ => by rw [f17]) (fun i _ => by rw [f18]) ?_ ?_ ?_
      · rw [e19, upd_n (by omega), upd_n (by omega)]
      · rw [e20, upd_n (by omega), upd_n (by omega)]
      · rw [e21, upd_n (by omega), upd_n (by omega)]
  · intro v hv' sd hsd v2 hv2 sd2 hsd2 i hi i2 hi2 he
    by_cases e : v = nV s
    · subst e
      rw [hrow0 sd hsd] at hi
      simp at hi
    · by_cases e2 : v2 = nV s
      · subst e2
        rw [hrow0 sd2 hsd2] at hi2
        simp at hi2
      · rw [hrow v (by omega) sd hsd] at hi
        rw [hrow v2 (by omega) sd2 hsd2] at hi2
        exact c6 v (by omega) sd hsd v2 (by omega) sd2 hsd2 i hi i2 hi2 he
/-- a new type that is an arrow or a record: what is made of it is told by e -/
theorem MR.r_mk {s s' : aS} {ix : Nat → Nat → Nat} {o o' : Nat → Int32} {F F' : Nat → Nat → Int32} {k lv x1 x2 : Nat} {ls ps : List Nat} (h : MR s ix o F) (ht : nT s ≠ 602) (hk : k = 1 ∨ k = 2) (hl : lv ≤ 100)
    (hnum : nT s' = nT s + 1 ∧ nV s' = nV s ∧ bnd s' = bnd s ∧ stp s' = stp s ∧ sto s' = sto s ∧ s'.1 0 4 = s.1 0 4 ∧ askn s' = askn s ∧ s'.2.2 = s.2.2)
    (hs : ∀ t, srt s' t = if t = nT s then k else srt s t) (hle : ∀ t, lev s' t = if t = nT s then lv else lev s t) (h1 : ∀ t, one s' t = if t = nT s ∧ k = 1 then x1 else one s t) (h2 : ∀ t, two s' t = if t = nT s ∧ k = 1 then x2 else two s t)
    (hp : ∀ t, parts s' t = if t = nT s ∧ k = 2 then ps else parts s t) (hla : ∀ t, labs s' t = if t = nT s ∧ k = 2 then ls else labs s t) (h6 : ∀ v, s'.1 6 v = s.1 6 v) (hr : ∀ sd, sd < 2 → ∀ t, row s' sd t = row s sd t)
    (e7 : o' 7 = nI (nT s + 1)) (eo : o' 14 = o 14 ∧ o' 16 = o 16 ∧ o' 26 = o 26 ∧ o' 27 = o 27 ∧ o' 24 = o 24 ∧ o' 25 = o 25 ∧ o' 28 = o 28)
    (e8 : F' 8 = upd (F 8) (nT s) (nI k)) (e9 : ∀ t, t < nT s + 1 → F' 9 t = if t = nT s then nI lv else F 9 t) (e10 : ∀ t, t < nT s → F' 10 t = F 10 t) (e11 : ∀ t, t < nT s → F' 11 t = F 11 t)
    (e12 : ∀ t, t < nT s → ∀ i, i < 6 → F' 12 (6 * t + i) = F 12 (6 * t + i) ∧ F' 13 (6 * t + i) = F 13 (6 * t + i))
    (new : (k = 1 → F' 10 (nT s) = nI x1 ∧ F' 11 (nT s) = nI x2 ∧ x1 < nT s ∧ x2 < nT s) ∧ (k = 2 → F' 10 (nT s) = nI ps.length ∧ ls.length = ps.length ∧ ps.length ≤ 6 ∧ ∀ i, i < ps.length → F' 12 (6 * nT s + i) = nI (ls.getD i 0) ∧ F' 13 (6 * nT s + i) = nI (ps.getD i 0) ∧ ps.getD i 0 < nT s ∧ ls.getD i 0 < 26))
    (ef : F' 15 = F 15 ∧ F' 17 = F 17 ∧ F' 18 = F 18 ∧ F' 19 = F 19 ∧ F' 20 = F 20 ∧ F' 21 = F 21 ∧ F' 29 = F 29 ∧ F' 30 = F 30) : MR s' ix o' F' := by
  obtain ⟨⟨a1, a2, a3, a4, a5, a6, a7, a8⟩, ⟨b1, b2, b3, b4, b5, b6, b7, b8⟩, c1, c2, c3, c4, c5, c6, c7⟩ := h
  obtain ⟨o1, o2, o3, o4, o5, o6, o7⟩ := eo
  obtain ⟨f15, f17, f18, f19, f20, f21, f29, f30⟩ := ef
  obtain ⟨n1, n2, n3, n4, n5, n6, n7, n8⟩ := hnum
  refine ⟨⟨by rw [e7, n1], by rw [o1, n2]; exact a2, by rw [o2, n3]; exact a3, by rw [o3, n4]; exact a4, by rw [o4, n5]; exact a5, ?_, by rw [o6, n7]; exact a7, by rw [o7, n8]; exact a8⟩, ⟨by omega, by omega, by omega, by omega, by omega, by omega, by rw [n8, n4]; exact b7, by omega⟩, ?_, ?_, ?_, ⟨?_, ?_⟩, ?_, ?_, RQ.to c7 n8 (by omega) f29 f30⟩
  · rw [o5, a6]
    unfold wc
    rw [n5, n6]
  · intro t ht'
    rw [hs, hle, e8, e9 t (by omega)]
    by_cases e : t = nT s
    · subst e
      rw [upd_s, if_pos rfl, if_pos rfl, if_pos rfl]
      exact ⟨rfl, rfl, ⟨by omega, fun h => absurd h (by omega)⟩, hl⟩
    · rw [upd_n e, if_neg e, if_neg e, if_neg e]
      exact c1 t (by omega)
  · intro t ht' h3
    rw [hs] at h3
    rw [n1, h1, h2]
    by_cases e : t = nT s
    · rw [if_pos e] at h3
      subst e
      rw [if_pos ⟨rfl, h3⟩, if_pos ⟨rfl, h3⟩]
      obtain ⟨g1, g2, g3, g4⟩ := new.1 h3
      exact ⟨g1, g2, by omega, by omega⟩
    · rw [if_neg e] at h3
      rw [if_neg (fun z => e z.1), if_neg (fun z => e z.1), e10 t (by omega), e11 t (by omega)]
      obtain ⟨g1, g2, g3, g4⟩ := c2 t (by omega) h3
      exact ⟨g1, g2, by omega, by omega⟩
  · intro t ht' h3
    rw [hs] at h3
    rw [n1, hp, hla]
    by_cases e : t = nT s
    · rw [if_pos e] at h3
      subst e
      rw [if_pos ⟨rfl, h3⟩, if_pos ⟨rfl, h3⟩]
      obtain ⟨g1, g2, g3, g4⟩ := new.2 h3
      refine ⟨g1, g2, g3, fun i hi => ?_⟩
      obtain ⟨k1, k2, k3, k4⟩ := g4 i hi
      exact ⟨k1, k2, by omega, k4⟩
    · rw [if_neg e] at h3
      rw [if_neg (fun z => e z.1), if_neg (fun z => e z.1), e10 t (by omega)]
      obtain ⟨g1, g2, g3, g4⟩ := c3 t (by omega) h3
      refine ⟨g1, g2, g3, fun i hi => ?_⟩
      obtain ⟨k1, k2, k3, k4⟩ := g4 i hi
      obtain ⟨q1, q2⟩ := e12 t (by omega) i (by omega)
      exact ⟨by rw [q1]; exact k1, by rw [q2]; exact k2, by omega, k4⟩
  · intro t ht' h3
    rw [hs] at h3
    by_cases e : t = nT s
    · rw [if_pos e] at h3
      omega
    · rw [if_neg e] at h3
      rw [h1, if_neg (fun z => e z.1), e10 t (by omega), n2, h6]
      exact c4.1 t (by omega) h3
  · intro v hv'
    obtain ⟨g1, g2, g3, g4⟩ := c4.2 v (by omega)
    rw [h6, f15, n1, hs, h1, if_neg (by omega), if_neg (fun z => by omega)]
    exact ⟨g1, by omega, g3, g4⟩
  · intro v hv' sd hsd
    rw [n3, n1, hr sd hsd, h6]
    exact (c5 v (by omega) sd hsd).to (Nat.le_refl _) (by omega) (fun i _ => by rw [f17]) (fun i _ => by rw [f18]) (by rw [f19]) (by rw [f20]) (by rw [f21])
  · intro v hv' sd hsd v2 hv2 sd2 hsd2 i hi i2 hi2 he
    rw [hr sd hsd, h6] at hi
    rw [hr sd2 hsd2, h6] at hi2
    exact c6 v (by omega) sd hsd v2 (by omega) sd2 hsd2 i hi i2 hi2 he
