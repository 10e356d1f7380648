/-! ===== the relation kept: a bound comes behind a row; a record of parts ===== -/
theorem bind_row (s : aS) (t sd x : Nat) : ∀ sd' t', row (bind s t sd x) sd' t' = if sd' = sd then (if t' = t then row s sd t ++ [x] else row s sd' t') else row s sd' t' := fun _ _ => rfl
theorem MR.r_bind {s : aS} {ix J : Nat → Nat → Nat} {o o' : Nat → Int32} {F F' : Nat → Nat → Int32} {t sd x q L : Nat} (h : MR s ix o F) (ht : t < nT s) (h3 : srt s t = 3) (hsd : sd < 2) (hx : x < nT s) (hb : bnd s < 200000) (hq : q = 2 * one s t + sd) (hL : L = (row s sd t).length) (hJ : ∀ a i, J a i = if a = q ∧ i = L then bnd s else ix a i)
    (e16 : o' 16 = nI (bnd s + 1)) (eo : o' 7 = o 7 ∧ o' 14 = o 14 ∧ o' 26 = o 26 ∧ o' 27 = o 27 ∧ o' 24 = o 24 ∧ o' 25 = o 25 ∧ o' 28 = o 28)
    (e17 : F' 17 = upd (F 17) (bnd s) (nI x)) (e20 : F' 20 = upd (F 20) q (nI (bnd s))) (e21 : F' 21 = upd (F 21) q (nI (L + 1)))
    (e0 : L = 0 → F' 18 = upd (F 18) (bnd s) (-9) ∧ F' 19 = upd (F 19) q (nI (bnd s))) (e1 : 0 < L → F' 18 = upd (upd (F 18) (bnd s) (-9)) (ix q (L - 1)) (nI (bnd s)) ∧ F' 19 = F 19)
    (ef : F' 8 = F 8 ∧ F' 9 = F 9 ∧ F' 10 = F 10 ∧ F' 11 = F 11 ∧ F' 12 = F 12 ∧ F' 13 = F 13 ∧ F' 15 = F 15 ∧ F' 29 = F 29 ∧ F' 30 = F 30) :
    MR (bind s t sd x) J o' F' ∧ Px s ix J := by
  obtain ⟨⟨a1, a2, a3, a4, a5, a6, a7, a8⟩, ⟨b1, b2, b3, b4, b5, b6, b7, b8⟩, c1, c2, c3, c4, c5, c6, c7⟩ := h
  obtain ⟨o1, o2, o3, o4, o5, o6, o7⟩ := eo
  obtain ⟨f8, f9, f10, f11, f12, f13, f15, f29, f30⟩ := ef
  obtain ⟨g1, g2, g3⟩ := c4.1 t ht h3
  have hn : nT (bind s t sd x) = nT s := rfl
  have hV : nV (bind s t sd x) = nV s := rfl
  have hbb : bnd (bind s t sd x) = bnd s + 1 := rfl
  have h6 : ∀ v, (bind s t sd x).1 6 v = s.1 6 v := fun _ => rfl
  have h63 : ∀ v, v < nV s → s.1 6 v = t → v = one s t := by
    intro v hv e
    have := (c4.2 v hv).2.2.2
    rw [e] at this
    exact this.symm
  have hrow : ∀ v, v < nV s → ∀ sd', sd' < 2 → row (bind s t sd x) sd' ((bind s t sd x).1 6 v) = if 2 * v + sd' = q then row s sd t ++ [x] else row s sd' (s.1 6 v) := by
    intro v hv sd' hsd'
    rw [h6, bind_row]
    by_cases e1 : sd' = sd
    · by_cases e2 : s.1 6 v = t
      · rw [if_pos e1, if_pos e2]
        have := h63 v hv e2
        rw [if_pos (by omega)]
      · rw [if_pos e1, if_neg e2, if_neg (fun z => e2 ?_)]
        have e3 : v = one s t := by omega
        rw [e3]
        exact g3
    · rw [if_neg e1, if_neg (by omega)]
  have hw := c5 (one s t) g2 sd hsd
  rw [g3, ← hq] at hw
  obtain ⟨w1', w2', w3', w4', w5'⟩ := hw
  rw [← hL] at w1' w2' w3' w4' w5'
  have hX : ∀ i, i < L → ix q i < bnd s := fun i hi => (w5' i hi).1
  have hdis : ∀ v, v < nV s → ∀ sd', sd' < 2 → 2 * v + sd' ≠ q → ∀ i, i < (row s sd' (s.1 6 v)).length → 0 < L → ix (2 * v + sd') i ≠ ix q (L - 1) := by
    intro v hv sd' hsd' hne i hi hL0 he
    have := c6 v hv sd' hsd' (one s t) g2 sd hsd i hi (L - 1) (by rw [g3, ← hL]; omega) (by rw [he, hq])
    omega
  refine ⟨⟨⟨by rw [o1]; exact a1, by rw [o2]; exact a2, by rw [e16, hbb], by rw [o3]; exact a4, by rw [o4]; exact a5, by rw [o5]; exact a6, by rw [o6]; exact a7, by rw [o7]; exact a8⟩, ⟨b1, b2, by omega, b4, b5, b6, b7, b8⟩, ?_, ?_, ?_, ⟨?_, ?_⟩, ?_, ?_, RQ.to c7 rfl (Nat.le_refl _) f29 f30⟩, ?_⟩
  · intro z hz
    rw [f8, f9]
    exact c1 z hz
  · intro z hz hz3
    rw [f10, f11]
    exact c2 z hz hz3
  · intro z hz hz3
    have p1 : parts (bind s t sd x) z = parts s z := by
      show (if 2 = sd then _ else s.2.1 2 z) = _
      rw [if_neg (by omega)]
    have p2 : labs (bind s t sd x) z = labs s z := by
      show (if 3 = sd then _ else s.2.1 3 z) = _
      rw [if_neg (by omega)]
    rw [p1, p2, f10, f12, f13]
    exact c3 z hz hz3
  · intro z hz hz3
    rw [f10]
    exact c4.1 z hz hz3
  · intro v hv
    rw [f15]
    exact c4.2 v hv
  · intro v hv sd' hsd'
    rw [hrow v hv sd' hsd', hbb, hn]
    by_cases e : 2 * v + sd' = q
    · rw [if_pos e, e]
      have hlen : (row s sd t ++ [x]).length = L + 1 := by
        rw [List.length_append, ← hL]
        rfl
      refine ⟨by rw [hlen, e21, upd_s], fun h0 => by omega, fun _ => ⟨?_, ?_⟩, by omega, fun i hi => ?_⟩
      · rcases Nat.eq_zero_or_pos L with hL0 | hL0
        · rw [(e0 hL0).2, upd_s, hJ, if_pos ⟨rfl, hL0.symm⟩]
        · rw [(e1 hL0).2, hJ, if_neg (fun z => Nat.ne_of_gt hL0 z.2.symm)]
          exact (w3' hL0).1
      · rw [e20, upd_s, hlen, hJ, if_pos ⟨rfl, rfl⟩]
      · rw [hlen] at hi
        rw [hlen]
        rcases Nat.lt_or_ge i L with hi2 | hi2
        · obtain ⟨k1, k2, k3, k4⟩ := w5' i hi2
          have ei : J q i = ix q i := by rw [hJ, if_neg (fun z => Nat.ne_of_lt hi2 z.2)]
          rw [ei, gtL (by omega), e17, upd_n (by omega), if_pos (by omega)]
          refine ⟨by omega, k2, k3, ?_⟩
          rw [(e1 (by omega)).1]
          by_cases el : i + 1 = L
          · have : i = L - 1 := by omega
            rw [this, upd_s, hJ, if_pos ⟨rfl, by omega⟩]
          · have hne : ix q i ≠ ix q (L - 1) := by
              intro he
              have := c6 (one s t) g2 sd hsd (one s t) g2 sd hsd i (by rw [g3, ← hL]; omega) (L - 1) (by rw [g3, ← hL]; omega) (by rw [← hq]; exact he)
              omega
            rw [upd_n hne, upd_n (by omega), k4, if_pos (by omega), hJ, if_neg (fun z => el z.2)]
        · have hiL : i = L := by omega
          rw [hiL]
          have ei : J q L = bnd s := by rw [hJ, if_pos ⟨rfl, rfl⟩]
          rw [ei, gtR hL, e17, upd_s, if_neg (by omega)]
          refine ⟨by omega, rfl, hx, ?_⟩
          rcases Nat.eq_zero_or_pos L with hL0 | hL0
          · rw [(e0 hL0).1, upd_s]
          · have := hX (L - 1) (by omega)
            rw [(e1 hL0).1, upd_n (by omega), upd_s]
    · rw [if_neg e]
      have ec : ∀ i, J (2 * v + sd') i = ix (2 * v + sd') i := fun i => by rw [hJ, if_neg (fun z => e z.1)]
      have hw2 := c5 v hv sd' hsd'
      have key : Rw (bnd s + 1) (nT s) (row s sd' (s.1 6 v)) (ix (2 * v + sd')) F' (2 * v + sd') := by
        refine hw2.to (by omega) (Nat.le_refl _) (fun i hi => by rw [e17, upd_n (by omega)]) (fun i hi => ?_) ?_ (by rw [e20, upd_n e]) (by rw [e21, upd_n e])
        · have hlt := (hw2.2.2.2.2 i hi).1
          rcases Nat.eq_zero_or_pos L with hL0 | hL0
          · rw [(e0 hL0).1, upd_n (by omega)]
          · rw [(e1 hL0).1, upd_n (hdis v hv sd' hsd' e i hi hL0), upd_n (by omega)]
        · rcases Nat.eq_zero_or_pos L with hL0 | hL0
          · rw [(e0 hL0).2, upd_n e]
          · rw [(e1 hL0).2]
      have ef : J (2 * v + sd') = ix (2 * v + sd') := funext ec
      rw [ef]
      exact key
  · intro v hv sd1 hsd1 v2 hv2 sd2 hsd2 i hi i2 hi2 he
    rw [hJ, hJ] at he
    rw [hrow v hv sd1 hsd1] at hi
    rw [hrow v2 hv2 sd2 hsd2] at hi2
    have hlen : (row s sd t ++ [x]).length = L + 1 := by
      rw [List.length_append, ← hL]
      rfl
    have lt1 : ∀ v, v < nV s → ∀ sd', sd' < 2 → ∀ i, i < (row s sd' (s.1 6 v)).length → ix (2 * v + sd') i < bnd s := fun v hv sd' hsd' i hi => ((c5 v hv sd' hsd').2.2.2.2 i hi).1
    have old : ∀ v, v < nV s → ∀ sd', sd' < 2 → ∀ i, i < (if 2 * v + sd' = q then row s sd t ++ [x] else row s sd' (s.1 6 v)).length → ¬ (2 * v + sd' = q ∧ i = L) → i < (row s sd' (s.1 6 v)).length := by
      intro v hv sd' hsd' i hi hne
      by_cases e : 2 * v + sd' = q
      · rw [if_pos e, hlen] at hi
        have e2 : v = one s t ∧ sd' = sd := by omega
        rw [e2.1, e2.2, g3, ← hL]
        omega
      · rw [if_neg e] at hi
        exact hi
    by_cases k1 : 2 * v + sd1 = q ∧ i = L
    · by_cases k2 : 2 * v2 + sd2 = q ∧ i2 = L
      · omega
      · have hi3 := old v2 hv2 sd2 hsd2 i2 hi2 k2
        have := lt1 v2 hv2 sd2 hsd2 i2 hi3
        rw [if_pos k1, if_neg k2] at he
        omega
    · have hi3 := old v hv sd1 hsd1 i hi k1
      have l1 := lt1 v hv sd1 hsd1 i hi3
      by_cases k2 : 2 * v2 + sd2 = q ∧ i2 = L
      · rw [if_neg k1, if_pos k2] at he
        omega
      · rw [if_neg k1, if_neg k2] at he
        exact c6 v hv sd1 hsd1 v2 hv2 sd2 hsd2 i hi3 i2 (old v2 hv2 sd2 hsd2 i2 hi2 k2) he
  · intro v hv sd' hsd' i hi
    by_cases e : 2 * v + sd' = q ∧ i = L
    · have e2 : v = one s t ∧ sd' = sd := by omega
      rw [e2.1, e2.2, g3, ← hL] at hi
      omega
    · rw [hJ, if_neg e]
