/-! ===== a new start: how many nodes TYPING comes to; the machine's first state ===== -/
def TRw (tr : aM) (N : Nat) : Prop := ∃ rk : Nat → Nat, (∀ c, tr 3 c ≠ 0 → rk (tr 3 c - 1) < rk c) ∧ (∀ n, n < N → ∀ i i', i < prts (tr 0 n) (tr 2 n) → i' < prts (tr 0 n) (tr 2 n) → tr (10 + i) n = tr (10 + i') n → i = i')
/-- x is n, or within it, at most k steps below -/
def anc (tr : aM) : Nat → Nat → Nat → Bool
  | 0, x, n => decide (x = n)
  | k + 1, x, n => decide (x = n) || (decide (tr 3 x ≠ 0) && anc tr k (tr 3 x - 1) n)
theorem anc_rk {tr : aM} {rk : Nat → Nat} (hr : ∀ c, tr 3 c ≠ 0 → rk (tr 3 c - 1) < rk c) : ∀ {k x n : Nat}, anc tr k x n = true → rk n ≤ rk x
  | 0, x, n, h => by
    have : x = n := by simpa [anc] using h
    rw [this]
    exact Nat.le_refl _
  | k + 1, x, n, h => by
    simp only [anc, Bool.or_eq_true, Bool.and_eq_true, decide_eq_true_eq] at h
    rcases h with h | ⟨h1, h2⟩
    · rw [h]
      exact Nat.le_refl _
    · have a := anc_rk hr h2
      have b := hr x h1
      omega
theorem anc_up {tr : aM} {n p : Nat} (hp : tr 3 p = n + 1) : ∀ {k x : Nat}, anc tr k x p = true → anc tr (k + 1) x n = true
  | 0, x, h => by
    have e : x = p := by simpa [anc] using h
    simp only [anc, Bool.or_eq_true, Bool.and_eq_true, decide_eq_true_eq]
    right
    rw [e, hp]
    exact ⟨by omega, by omega⟩
  | k + 1, x, h => by
    simp only [anc, Bool.or_eq_true, Bool.and_eq_true, decide_eq_true_eq] at h
    rcases h with h | ⟨h1, h2⟩
    · rw [anc]
      simp only [Bool.or_eq_true, Bool.and_eq_true, decide_eq_true_eq]
      right
      rw [h, hp]
      refine ⟨by omega, ?_⟩
      rw [show n + 1 - 1 = n by omega]
      simp [anc]
    · have := anc_up hp h2
      rw [anc]
      simp only [Bool.or_eq_true, Bool.and_eq_true, decide_eq_true_eq]
      exact Or.inr ⟨h1, this⟩
theorem anc_one {tr : aM} {rk : Nat → Nat} (hr : ∀ c, tr 3 c ≠ 0 → rk (tr 3 c - 1) < rk c) {n p q : Nat} (hp : tr 3 p = n + 1) (hq : tr 3 q = n + 1) : ∀ {k x : Nat}, anc tr k x p = true → anc tr k x q = true → p = q := by
  have rp : rk n < rk p := by have := hr p (by omega); rw [hp] at this; exact this
  have rq : rk n < rk q := by have := hr q (by omega); rw [hq] at this; exact this
  intro k
  induction k with
  | zero =>
    intro x h1 h2
    have e1 : x = p := by simpa [anc] using h1
    have e2 : x = q := by simpa [anc] using h2
    omega
  | succ k ih =>
    intro x h1 h2
    simp only [anc, Bool.or_eq_true, Bool.and_eq_true, decide_eq_true_eq] at h1 h2
    rcases h1 with h1 | ⟨h1, h3⟩
    · rcases h2 with h2 | ⟨h2, h4⟩
      · omega
      · rw [h1, hp] at h4
        have := anc_rk hr h4
        rw [show n + 1 - 1 = n by omega] at this
        omega
    · rcases h2 with h2 | ⟨h2, h4⟩
      · rw [h2, hq] at h3
        have := anc_rk hr h3
        rw [show n + 1 - 1 = n by omega] at this
        omega
      · exact ih h3 h4
theorem cP_or {q r : Nat → Bool} : ∀ l : List Nat, (∀ x ∈ l, ¬ (q x = true ∧ r x = true)) → l.countP (fun x => q x || r x) = l.countP q + l.countP r
  | [], _ => rfl
  | x :: l, h => by
    have ih := cP_or l (fun y hy => h y (by simp [hy]))
    have hx := h x (by simp)
    simp only [List.countP_cons, ih]
    cases hq : q x with
    | true =>
      cases hr : r x with
      | true => exact absurd ⟨hq, hr⟩ hx
      | false => simp; omega
    | false =>
      cases hr : r x with
      | true => simp; omega
      | false => simp
theorem cP_mono {q r : Nat → Bool} : ∀ l : List Nat, (∀ x ∈ l, q x = true → r x = true) → l.countP q ≤ l.countP r
  | [], _ => Nat.le_refl _
  | x :: l, h => by
    have ih := cP_mono l (fun y hy => h y (by simp [hy]))
    have hx := h x (by simp)
    simp only [List.countP_cons]
    cases hq : q x with
    | true => rw [hx hq]; simpa using ih
    | false => simp; omega
theorem cP_one {q : Nat → Bool} {n : Nat} : ∀ l : List Nat, n ∈ l → q n = true → 1 ≤ l.countP q := fun l hm hq => List.countP_pos_iff.mpr ⟨n, hm, hq⟩
theorem cnt_le {tr : aM} {N : Nat} {o : Nat → Int32} {F : Nat → Nat → Int32} (hT : TRm tr N o F) (hw : TRw tr N) : ∀ k n, n < N → cntT tr k n ≤ (List.range N).countP (fun x => anc tr k x n) := by
  obtain ⟨rk, hr, hd⟩ := hw
  intro k
  induction k with
  | zero =>
    intro n hn
    exact cP_one _ (List.mem_range.mpr hn) (by simp [anc])
  | succ k ih =>
    intro n hn
    have t0 := (hT.2.2 n hn).2.2.2.2.2.2.1
    have key : ∀ m, m ≤ prts (tr 0 n) (tr 2 n) → 1 + ((List.range m).map (fun i => cntT tr k (tr (10 + i) n))).sum ≤ (List.range N).countP (fun x => decide (x = n) || (List.range m).any (fun i => anc tr k x (tr (10 + i) n))) := by
      intro m
      induction m with
      | zero =>
        intro _
        exact cP_one _ (List.mem_range.mpr hn) (by simp)
      | succ m ihm =>
        intro hm
        have h1 := ihm (by omega)
        obtain ⟨-, p2, p3⟩ := t0 m (by omega)
        have h2 := ih (tr (10 + m) n) p2
        have rp : rk n < rk (tr (10 + m) n) := by have := hr (tr (10 + m) n) (by omega); rw [p3] at this; exact this
        have h3 := cP_or (q := fun x => decide (x = n) || (List.range m).any (fun i => anc tr k x (tr (10 + i) n))) (r := fun x => anc tr k x (tr (10 + m) n)) (List.range N) (fun x _ hx => by
          obtain ⟨ha, hb⟩ := hx
          simp only [Bool.or_eq_true, decide_eq_true_eq, List.any_eq_true] at ha
          rcases ha with ha | ⟨i, hi, ha⟩
          · have := anc_rk hr hb
            rw [ha] at this
            omega
          · have hi2 := List.mem_range.mp hi
            obtain ⟨-, -, q3⟩ := t0 i (by omega)
            have := anc_one hr q3 p3 ha hb
            have := hd n hn i m (by omega) (by omega) this
            omega)
        rw [List.range_succ, List.map_append, List.sum_append]
        simp only [List.map_cons, List.map_nil, List.sum_cons, List.sum_nil, Nat.add_zero]
        have h4 := cP_mono (q := fun x => (decide (x = n) || (List.range m).any (fun i => anc tr k x (tr (10 + i) n))) || anc tr k x (tr (10 + m) n)) (r := fun x => decide (x = n) || (List.range m ++ [m]).any (fun i => anc tr k x (tr (10 + i) n))) (List.range N) (fun x _ hx => by
          simp only [List.any_append, List.any_cons, List.any_nil, Bool.or_false]
          rw [← Bool.or_assoc]
          exact hx)
        omega
    have h5 := key _ (Nat.le_refl _)
    refine Nat.le_trans h5 (cP_mono _ (fun x _ hx => ?_))
    simp only [Bool.or_eq_true, decide_eq_true_eq, List.any_eq_true] at hx
    rcases hx with hx | ⟨i, hi, ha⟩
    · simp [anc, hx]
    · exact anc_up (t0 i (List.mem_range.mp hi)).2.2 ha
theorem cnt_all {tr : aM} {N : Nat} {o : Nat → Int32} {F : Nat → Nat → Int32} (hT : TRm tr N o F) (hw : TRw tr N) {k n : Nat} (hn : n < N) : cntT tr k n ≤ 120 := by
  have h1 := cnt_le hT hw k n hn
  have h2 : (List.range N).countP (fun x => anc tr k x n) ≤ (List.range N).length := List.countP_le_length
  rw [List.length_range] at h2
  have := hT.2.1
  omega
/-- the machine's first state, with the node that asks -/
def zS (n : Nat) : aS := w1 start 0 5 n
theorem zS_bnd {tr : aM} {N : Nat} {o : Nat → Int32} {F : Nat → Nat → Int32} (hT : TRm tr N o F) (hw : TRw tr N) {n : Nat} (hn : n < N) : bnd (ty tr n 60 (zS n) n 0).1 ≤ 200000 := by
  obtain ⟨rk, hr, hd⟩ := hw
  have hTre : Tre tr rk (fun x => x < N) := by
    refine ⟨hr, fun x i hx hi => ?_, fun x hx h7 => ?_⟩
    · obtain ⟨-, a, b⟩ := (hT.2.2 x hx).2.2.2.2.2.2.1 i hi
      exact ⟨b, a⟩
    · exact (hT.2.2 x hx).2.2.2.2.2.2.2.2 h7
  obtain ⟨hI, hE⟩ := i_askn (n := n) start_inv
  obtain ⟨-, y', a1, a2, a3, a4, a5⟩ := ty_ok (top := n) hTre 60 (zS n) y0 0 n 0 hn ⟨rfl, rfl⟩ hI start_cx (cv_top _ tr n)
  exact bnd_ok a1.1
theorem zS_ts {tr : aM} {N n : Nat} {o : Nat → Int32} {F : Nat → Nat → Int32} (hT : TRm tr N o F) (hn : n < N) (h7 : o 7 = 2 ∧ o 14 = 0 ∧ o 16 = 0 ∧ o 26 = 0 ∧ o 27 = 0 ∧ o 24 = -9 ∧ o 25 = nI n ∧ o 28 = 0) (h8 : F 8 0 = 0 ∧ F 8 1 = 0 ∧ F 9 0 = 0 ∧ F 9 1 = 0) (h36 : ∀ i, i < 300 → F 36 i = 0) (h40 : ∀ i, i < 150 → F 40 i = 0) (h31 : o 31 = 0 ∧ o 32 = 0 ∧ o 33 = 0 ∧ o 35 = 0 ∧ o 42 = 0 ∧ o 45 = nI n) : TS tr N n (fun _ => False) (zS n) (fun _ _ => 0) 0 0 o F := by
  obtain ⟨a1, a2, a3, a4, a5, a6, a7, a8⟩ := h7
  obtain ⟨b1, b2, b3, b4⟩ := h8
  obtain ⟨c1, c2, c3, c4, c5, c6⟩ := h31
  have hN := hT.2.1
  have s0 : ∀ t, srt (zS n) t = 0 := fun _ => rfl
  have l0 : ∀ t, lev (zS n) t = 0 := fun _ => rfl
  have v0 : nV (zS n) = 0 := rfl
  have n2 : nT (zS n) = 2 := rfl
  refine ⟨⟨⟨a1, a2, a3, a4, a5, a6, a7, a8⟩, ⟨show 2 ≤ 602 by decide, show 0 ≤ 150 by decide, show 0 ≤ 200000 by decide, show 0 ≤ 1500 by decide, show 0 ≤ 2 by decide, ?_, Nat.le_refl 0, Nat.le_refl 2⟩, fun t ht => ?_, fun t _ h => ?_, fun t _ h => ?_, ⟨fun t _ h => ?_, fun v hv => ?_⟩, fun v hv => ?_, fun v hv => ?_, fun i hi => ?_⟩, hT, fun _ q hq => hq.elim, ⟨fun i hi => ⟨0, Nat.le_refl _, h36 i hi⟩, c4, Nat.zero_le _⟩, ⟨fun i hi => ⟨0, Nat.le_refl _, h40 i hi⟩, c5⟩, c1, c2, c3, c6⟩
  · show n < 120
    omega
  · rw [n2] at ht
    rw [s0, l0]
    rcases (by omega : t = 0 ∨ t = 1) with rfl | rfl
    · exact ⟨b1, b3, ⟨by omega, fun _ => rfl⟩, by omega⟩
    · exact ⟨b2, b4, ⟨by omega, fun _ => rfl⟩, by omega⟩
  · rw [s0] at h
    exact absurd h (by decide)
  · rw [s0] at h
    exact absurd h (by decide)
  · rw [s0] at h
    exact absurd h (by decide)
  · rw [v0] at hv
    omega
  · rw [v0] at hv
    omega
  · rw [v0] at hv
    omega
  · have : (zS n).2.2.length = 0 := rfl
    rw [this] at hi
    omega
theorem in_nat {x : Int32} {N : Nat} (hN : N ≤ 120) : (0 ≤ x ∧ x ≤ nI N - 1) ↔ ∃ j, j < N ∧ x = nI j := by
  have e : (nI N - nI 1).toInt = (N : Int) - 1 := pk_sub_toInt (by omega) (by omega)
  have e2 : (nI N - 1 : Int32) = nI N - nI 1 := rfl
  rw [i_le, i_le, e2, e]
  have e0 : (0 : Int32).toInt = 0 := rfl
  rw [e0]
  constructor
  · rintro ⟨h1, h2⟩
    obtain ⟨j, hj, ej⟩ := nI_of (x := x) (by rw [i_lt, e0]; omega)
    have := nI_toInt hj
    rw [← ej] at this
    exact ⟨j, by omega, ej⟩
  · rintro ⟨j, hj, rfl⟩
    rw [nI_toInt (by omega)]
    omega
theorem fput_off {F : Nat → Nat → Int32} {k j a : Nat} {x : Int32} (h : a ≠ k) : fput F k j x a = F a := by simp [fput, h]
