/-! ===== the tree grows: a record gets a part ===== -/
def trF (tr : aM) (q p x m : Nat) : aM := fun g j => if j = q ∧ g = 2 then m + 1 else if j = q ∧ g = 10 + m then p else if j = q ∧ g = 20 + m then x else if j = p ∧ g = 3 then q + 1 else tr g j
theorem trF_o {tr : aM} {q p x m g j : Nat} (h : ¬ (j = q ∧ (g = 2 ∨ g = 10 + m ∨ g = 20 + m))) (h3 : ¬ (j = p ∧ g = 3)) : trF tr q p x m g j = tr g j := by
  unfold trF
  rw [if_neg (fun z => h ⟨z.1, Or.inl z.2⟩), if_neg (fun z => h ⟨z.1, Or.inr (Or.inl z.2)⟩), if_neg (fun z => h ⟨z.1, Or.inr (Or.inr z.2)⟩), if_neg h3]
theorem trF_3 {tr : aM} {q p x m j : Nat} : trF tr q p x m 3 j = if j = p then q + 1 else tr 3 j := by
  unfold trF
  rw [if_neg (by omega), if_neg (by omega), if_neg (by omega)]
  by_cases e : j = p
  · rw [if_pos ⟨e, rfl⟩, if_pos e]
  · rw [if_neg (fun z => e z.1), if_neg e]
theorem trF_2 {tr : aM} {q p x m j : Nat} : trF tr q p x m 2 j = if j = q then m + 1 else tr 2 j := by
  by_cases e : j = q
  · unfold trF
    rw [if_pos ⟨e, rfl⟩, if_pos e]
  · rw [trF_o (fun z => e z.1) (by omega), if_neg e]
theorem trF_m {tr : aM} {q p x m : Nat} : trF tr q p x m (10 + m) q = p ∧ trF tr q p x m (20 + m) q = x := by
  unfold trF
  constructor
  · rw [if_neg (by omega), if_pos ⟨rfl, rfl⟩]
  · rw [if_neg (by omega), if_neg (by omega), if_pos ⟨rfl, rfl⟩]
theorem TRm.field {tr : aM} {N q p x : Nat} {o o' : Nat → Int32} {F F' : Nat → Nat → Int32} (h : TRm tr N o F) (hq : q < N) (hp : p < N) (h5 : tr 0 q = 5) (hm : tr 2 q < 6) (hp0 : tr 3 p = 0) (hx : x < 26)
    (eo : o' 0 = o 0) (e1 : F' 1 = F 1) (e2 : F' 2 = F 2) (e3 : F' 3 = upd (F 3) q (nI (tr 2 q + 1))) (e4 : F' 4 = upd (F 4) (6 * q + tr 2 q) (nI p)) (e5 : F' 5 = upd (F 5) (6 * q + tr 2 q) (nI x)) (e6 : F' 6 = upd (F 6) p (nI q)) : TRm (trF tr q p x (tr 2 q)) N o' F' := by
  obtain ⟨h0, hN, h3⟩ := h
  refine ⟨eo.trans h0, hN, fun n hn => ?_⟩
  obtain ⟨t1, t2, t3, t4, t5, t6, t7, t8, t9⟩ := h3 n hn
  have p6 : prts (tr 0 n) (tr 2 n) ≤ 6 := by
    unfold prts
    split
    · omega
    · split
      · exact t5
      · split
        · omega
        · split
          · omega
          · omega
  rw [trF_o (g := 0) (by omega) (by omega), trF_o (g := 1) (by omega) (by omega), trF_2, e1, e2, e3, e6]
  refine ⟨t1, t2, t3, ?_, ?_, fun hz => ?_, fun i hi => ?_, fun hk5 i hi => ?_, fun h7 => ?_⟩
  · by_cases e : n = q
    · rw [e, upd_s, if_pos rfl]
    · rw [upd_n e, if_neg e]
      exact t4
  · by_cases e : n = q
    · rw [if_pos e]
      omega
    · rw [if_neg e]
      exact t5
  · rw [trF_3] at hz ⊢
    by_cases e : n = p
    · rw [if_pos e, e, upd_s]
      exact ⟨rfl, by omega⟩
    · rw [if_neg e] at hz ⊢
      rw [upd_n e]
      exact t6 hz
  · by_cases e : n = q
    · subst e
      rw [if_pos rfl, h5] at hi
      have hi2 : i < tr 2 n + 1 := hi
      rw [e4]
      by_cases ei : i = tr 2 n
      · rw [ei, upd_s, trF_m.1, trF_3, if_pos rfl]
        exact ⟨rfl, hp, rfl⟩
      · rw [upd_n (by omega), trF_o (by omega) (by omega)]
        obtain ⟨a, b, c⟩ := t7 i (by rw [h5]; show i < tr 2 n; omega)
        rw [trF_3, if_neg (fun z => by rw [z] at c; omega)]
        exact ⟨a, b, c⟩
    · rw [if_neg e] at hi
      rw [e4, upd_n (by omega), trF_o (fun z => e z.1) (by omega)]
      obtain ⟨a, b, c⟩ := t7 i hi
      rw [trF_3, if_neg (fun z => by rw [z] at c; omega)]
      exact ⟨a, b, c⟩
  · by_cases e : n = q
    · subst e
      rw [if_pos rfl] at hi
      rw [e5]
      by_cases ei : i = tr 2 n
      · rw [ei, upd_s, trF_m.2]
        exact ⟨rfl, hx⟩
      · rw [upd_n (by omega), trF_o (by omega) (by omega)]
        exact t8 hk5 i (by omega)
    · rw [if_neg e] at hi
      rw [e5, upd_n (by omega), trF_o (fun z => e z.1) (by omega)]
      exact t8 hk5 i hi
  · have e : n ≠ q := fun e => by rw [e, h5] at h7; omega
    rw [trF_o (fun z => e z.1) (by omega), trF_o (fun z => e z.1) (by omega)]
    exact t9 h7
theorem TRf.field {tr : aM} {N q p x m : Nat} {F F' : Nat → Nat → Int32} (h : TRf tr N F) (e6 : F' 6 = upd (F 6) p (nI q)) : TRf (trF tr q p x m) N F' := by
  intro n hn h0
  rw [trF_3] at h0
  by_cases e : n = p
  · rw [if_pos e] at h0
    omega
  · rw [if_neg e] at h0
    rw [e6, upd_n e]
    exact h n hn h0
theorem TRw.field {tr : aM} {N q p x : Nat} {o : Nat → Int32} {F : Nat → Nat → Int32} (hT : TRm tr N o F) (h : TRw tr N) (hq : q < N) (h5 : tr 0 q = 5) (hp0 : tr 3 p = 0) (hw : ¬ Wi tr q p) : TRw (trF tr q p x (tr 2 q)) N := by
  obtain ⟨rk, h1, h2⟩ := h
  refine ⟨fun j => @ite _ (Wi tr j p) (Classical.propDecidable _) (rk j + rk q + 1) (rk j), fun c hc => ?_, fun n hn i i' hi hi' he => ?_⟩
  · rw [trF_3] at hc ⊢
    by_cases e : c = p
    · rw [if_pos e]
      show @ite _ (Wi tr q p) (Classical.propDecidable _) _ _ < @ite _ (Wi tr c p) (Classical.propDecidable _) _ _
      rw [if_neg hw, e, if_pos Wi.rf]
      have e1 : rk (q + 1 - 1) = rk q := by rw [show q + 1 - 1 = q by omega]
      omega
    · rw [if_neg e] at hc ⊢
      have hup := Wi.up (q := p) hc e
      have hr := h1 c hc
      show @ite _ (Wi tr (tr 3 c - 1) p) (Classical.propDecidable _) _ _ < @ite _ (Wi tr c p) (Classical.propDecidable _) _ _
      by_cases hz : Wi tr c p
      · rw [if_pos hz, if_pos (hup.mp hz)]
        omega
      · rw [if_neg hz, if_neg (fun z => hz (hup.mpr z))]
        exact hr
  · rw [trF_o (g := 0) (by omega) (by omega), trF_2] at hi hi'
    by_cases e : n = q
    · subst e
      rw [if_pos rfl, h5] at hi hi'
      have a1 : i < tr 2 n + 1 := hi
      have a2 : i' < tr 2 n + 1 := hi'
      have t7 := (hT.2.2 n hn).2.2.2.2.2.2.1
      rw [h5] at t7
      have key : ∀ i, i < tr 2 n → trF tr n p x (tr 2 n) (10 + i) n = tr (10 + i) n ∧ tr (10 + i) n ≠ p := fun i hi => by
        refine ⟨trF_o (by omega) (by omega), fun z => ?_⟩
        have := (t7 i hi).2.2
        rw [z] at this
        omega
      by_cases b1 : i = tr 2 n
      · by_cases b2 : i' = tr 2 n
        · omega
        · rw [b1, trF_m.1, (key i' (by omega)).1] at he
          exact absurd he.symm (key i' (by omega)).2
      · by_cases b2 : i' = tr 2 n
        · rw [b2, trF_m.1, (key i (by omega)).1] at he
          exact absurd he (key i (by omega)).2
        · rw [(key i (by omega)).1, (key i' (by omega)).1] at he
          exact h2 n hn i i' (by rw [h5]; show i < tr 2 n; omega) (by rw [h5]; show i' < tr 2 n; omega) he
    · rw [if_neg e] at hi hi'
      rw [trF_o (fun z => e z.1) (by omega), trF_o (fun z => e z.1) (by omega)] at he
      exact h2 n hn i i' hi hi' he
