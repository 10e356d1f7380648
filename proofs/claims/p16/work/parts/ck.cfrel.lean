/-! ===== field: both programs ask the same, and do the same ===== -/
section UP
variable {tr : aM} {N : Nat} {o : Nat → Int32} {F : Nat → Nat → Int32} {f2 : Nat → Int32}
theorem rk_step {rk : Nat → Nat} (hr : ∀ c, tr 3 c ≠ 0 → rk (tr 3 c - 1) < rk c) {q : Nat} (h3 : tr 3 q ≠ 0) (hP : tr 3 q - 1 < N) : (List.range N).countP (fun j => decide (rk j < rk (tr 3 q - 1))) + 1 ≤ (List.range N).countP (fun j => decide (rk j < rk q)) := by
  have h := hr q h3
  have h1 := cP_or (q := fun j => decide (rk j < rk (tr 3 q - 1))) (r := fun j => decide (j = tr 3 q - 1)) (List.range N) (fun x _ hx => by
    obtain ⟨a, b⟩ := hx
    simp only [decide_eq_true_eq] at a b
    rw [b] at a
    omega)
  have h2 := cP_one (q := fun j => decide (j = tr 3 q - 1)) (n := tr 3 q - 1) (List.range N) (List.mem_range.mpr hP) (by simp)
  have h3 := cP_mono (q := fun j => decide (rk j < rk (tr 3 q - 1)) || decide (j = tr 3 q - 1)) (r := fun j => decide (rk j < rk q)) (List.range N) (fun x _ hx => by
    simp only [Bool.or_eq_true, decide_eq_true_eq] at hx ⊢
    rcases hx with z | z
    · omega
    · rw [z]
      exact h)
  omega
theorem up_wi (hT : TRm tr N o F) (hf : TRf tr N F) {rk : Nat → Nat} (hr : ∀ c, tr 3 c ≠ 0 → rk (tr 3 c - 1) < rk c) (h2 : ∀ j, j < N → f2 j = F 6 j) {p : Nat} (hp : p < N) (hp0 : tr 3 p = 0) : ∀ m q, q < N → (List.range N).countP (fun j => decide (rk j < rk q)) ≤ m → (t_up f2 N m (nI q) = nI p ↔ Wi tr q p) := by
  have hN := hT.2.1
  have top : ∀ q, q < N → tr 3 q = 0 → (nI q = nI p ↔ Wi tr q p) := fun q hq h0 => by
    rw [nI_eq (by omega) (by omega)]
    constructor
    · intro e
      rw [e]
      exact Wi.rf
    · intro h
      by_cases e : q = p
      · exact e
      · exact absurd h (Wi.top h0 e)
  intro m
  induction m with
  | zero =>
    intro q hq hc
    have h0 : tr 3 q = 0 := by
      by_cases h0 : tr 3 q = 0
      · exact h0
      · have := rk_step hr h0 ((hT.2.2 q hq).2.2.2.2.2.1 h0).2
        omega
    exact top q hq h0
  | succ m ih =>
    intro q hq hc
    unfold t_up
    rw [rget_at hq (by omega), h2 q hq]
    by_cases h9 : F 6 q = -9
    · rw [if_pos h9]
      exact top q hq (TRf.inv hT hq h9)
    · rw [if_neg h9]
      have h0 : tr 3 q ≠ 0 := fun z => h9 (hf q hq z)
      obtain ⟨e, hP⟩ := (hT.2.2 q hq).2.2.2.2.2.1 h0
      rw [e, ih _ hP (by have := rk_step hr h0 hP; omega)]
      have hne : q ≠ p := fun z => h0 (by rw [z]; exact hp0)
      exact (Wi.up h0 hne).symm
theorem up_wi2 (hT : TRm tr N o F) (hf : TRf tr N F) {rk : Nat → Nat} (hr : ∀ c, tr 3 c ≠ 0 → rk (tr 3 c - 1) < rk c) (h2 : ∀ j, j < N → f2 j = F 6 j) {p q : Nat} (hp : p < N) (hp0 : tr 3 p = 0) (hq : q < N) : t_up f2 N 120 (nI q) = nI p ↔ Wi tr q p := by
  refine up_wi hT hf hr h2 hp hp0 120 q hq (Nat.le_trans List.countP_le_length ?_)
  rw [List.length_range]
  exact hT.2.1
end UP
/-! a label's place -/
theorem find_no {g : Int32 → Int32} {x : Int32} : ∀ m i, i + m ≤ 1000 → (t_find g x m i = -9 ↔ ∀ j, i ≤ j → j < i + m → g (nI j) ≠ x)
  | 0, i, _ => ⟨fun _ j h1 h2 => by omega, fun _ => rfl⟩
  | m + 1, i, hm => by
    unfold t_find
    by_cases h : g (nI i) = x
    · rw [if_pos h]
      exact ⟨fun z => absurd z (nI_neg (by decide) (by omega)), fun z => absurd h (z i (Nat.le_refl _) (by omega))⟩
    · rw [if_neg h, find_no m (i + 1) (by omega)]
      constructor
      · intro z j h1 h2
        by_cases e : j = i
        · rw [e]
          exact h
        · exact z j (by omega) (by omega)
      · intro z j h1 h2
        exact z j (by omega) (by omega)
theorem part_at {f3 g : Nat → Int32} {N q c j : Nat} (hq : q < N) (hN : N ≤ 120) (h : f3 q = nI c) (hc : c ≤ 6) (hj : j < c) : t_part f3 g N (nI q) (nI j) = g (6 * q + j) := by
  unfold t_part
  rw [if_neg (nI_n0 (by omega)), rget_at hq (by omega), h, if_neg (by rw [nI_leI (by omega) (by omega)]; omega), six_at, rget_at (by omega) (by omega)]
theorem hasL_iff {f3 f5 : Nat → Int32} {N q c : Nat} {y : Int32} (hq : q < N) (hN : N ≤ 120) (h : f3 q = nI c) (hc : c ≤ 6) : t_hasL f3 f5 N (nI q) y = 0 ↔ ∀ i, i < c → f5 (6 * q + i) ≠ y := by
  have e : (nI c).toNatClampNeg = c := nI_clamp (by omega)
  have key : t_place f3 f5 N (nI q) y = -9 ↔ ∀ i, i < c → f5 (6 * q + i) ≠ y := by
    unfold t_place
    rw [pc_at hq (by omega) h (by omega), e, find_no c 0 (by omega)]
    constructor
    · intro z i hi
      have := z i (Nat.zero_le _) (by omega)
      rw [part_at hq hN h hc hi] at this
      exact this
    · intro z i _ hi
      rw [part_at hq hN h hc (by omega)]
      exact z i (by omega)
  unfold t_hasL
  by_cases h9 : t_place f3 f5 N (nI q) y = -9
  · rw [if_pos h9]
    exact ⟨fun _ => key.mp h9, fun _ => rfl⟩
  · rw [if_neg h9]
    exact ⟨fun z => absurd z (by decide), fun z => absurd (key.mpr z) h9⟩
/-- what the second program's field asks -/
def FQ (tr : aM) (N : Nat) (F : Nat → Nat → Int32) (x y w : Int32) (q y9 p9 : Nat) : Prop := q < N ∧ x = nI q ∧ y9 < 26 ∧ y = nI y9 ∧ p9 < N ∧ w = nI p9 ∧ F 6 p9 = -9 ∧ ¬ Wi tr q p9
section FR
variable {tr : aM} {N : Nat} {o : Nat → Int32} {F : Nat → Nat → Int32} {S : cS} {x y w : Int32}
theorem fok_iff (hI : RI tr N o F) (hE : TEq S F N) : FOK S N x y w ↔ ∃ q y9 p9, FQ tr N F x y w q y9 p9 := by
  have hN := hI.1.2.1
  obtain ⟨rk, hr, -⟩ := hI.2.2.1
  have h2 : ∀ j, j < N → kF S 2 j = F 6 j := fun j hj => (hE.1 j hj).2.2.1
  unfold FOK FQ
  rw [holds_iff (by omega), isL_iff, free_iff hN]
  constructor
  · rintro ⟨⟨q, hq, rfl⟩, ⟨y9, hy, rfl⟩, ⟨p9, hp, rfl, h9⟩, hw⟩
    rw [h2 p9 hp] at h9
    exact ⟨q, y9, p9, hq, rfl, hy, rfl, hp, rfl, h9, fun z => hw ((up_wi2 hI.1 hI.2.1 hr h2 hp (TRf.inv hI.1 hp h9) hq).mpr z)⟩
  · rintro ⟨q, y9, p9, hq, rfl, hy, rfl, hp, rfl, h9, hw⟩
    exact ⟨⟨q, hq, rfl⟩, ⟨y9, hy, rfl⟩, ⟨p9, hp, rfl, by rw [h2 p9 hp]; exact h9⟩, fun z => hw ((up_wi2 hI.1 hI.2.1 hr h2 hp (TRf.inv hI.1 hp h9) hq).mp z)⟩
theorem kind_iff {q : Nat} (hI : RI tr N o F) (hE : TEq S F N) (hq : q < N) : rget (kF S 0) N (nI q) = 5 ↔ tr 0 q = 5 := by
  have hN := hI.1.2.1
  obtain ⟨t1, t2, -⟩ := hI.1.2.2 q hq
  rw [rget_at hq (by omega), (hE.1 q hq).1, t1, show (5 : Int32) = nI 5 by decide +kernel, nI_eq (by omega) (by omega)]
theorem lab_iff {q y9 : Nat} (hI : RI tr N o F) (hE : TEq S F N) (hq : q < N) : t_hasL (kF S 3) (kF S 5) N (nI q) (nI y9) = 0 ↔ ∀ i, i < tr 2 q → F 5 (6 * q + i) ≠ nI y9 := by
  have hN := hI.1.2.1
  obtain ⟨t1, t2, t3, t4, t5, -⟩ := hI.1.2.2 q hq
  rw [hasL_iff hq hN ((hE.1 q hq).2.2.2.trans t4) t5]
  constructor
  · intro h i hi
    rw [← (hE.2 (6 * q + i) (by omega)).2]
    exact h i hi
  · intro h i hi
    rw [(hE.2 (6 * q + i) (by omega)).2]
    exact h i hi
theorem cnt_at {q : Nat} (hI : RI tr N o F) (hE : TEq S F N) (hq : q < N) : t_pc (kF S 3) N (nI q) = nI (tr 2 q) := by
  have hN := hI.1.2.1
  obtain ⟨t1, t2, t3, t4, t5, -⟩ := hI.1.2.2 q hq
  exact pc_at hq (by omega) ((hE.1 q hq).2.2.2.trans t4) (by omega)
/-- the second program's rows behind a field -/
def FldF (F F' : Nat → Nat → Int32) (q c p9 y9 : Nat) : Prop := F' = fput (fput (fput (fput F 4 (6 * q + c) (nI p9)) 5 (6 * q + c) (nI y9)) 6 p9 (nI q)) 3 q (nI (c + 1))
theorem TEq.field {u : cS} {F' : Nat → Nat → Int32} {q y9 p9 : Nat} (hI : RI tr N o F) (hE : TEq S F N) (hq : q < N) (hp : p9 < N) (hc : tr 2 q < 6) (hD : FLD S u N (nI q) (nI y9) (nI p9)) (hF : FldF F F' q (tr 2 q) p9 y9) : TEq u F' N := by
  have hN := hI.1.2.1
  obtain ⟨-, e0, e1, e2, e3, e4, e5, -⟩ := hD
  obtain ⟨t1, t2, t3, t4, t5, -⟩ := hI.1.2.2 q hq
  have h3 : kF S 3 q = nI (tr 2 q) := (hE.1 q hq).2.2.2.trans t4
  rw [af2_at hq (by omega) h3 hc hp] at e2
  rw [af3_at hq (by omega) h3 hc] at e3
  rw [ag_at hq (by omega) h3 hc] at e4 e5
  have f1 : F' 1 = F 1 := by rw [hF]; rfl
  have f2 : F' 2 = F 2 := by rw [hF]; rfl
  have f3 : F' 3 = upd (F 3) q (nI (tr 2 q + 1)) := by rw [hF]; rfl
  have f4 : F' 4 = upd (F 4) (6 * q + tr 2 q) (nI p9) := by rw [hF]; rfl
  have f5 : F' 5 = upd (F 5) (6 * q + tr 2 q) (nI y9) := by rw [hF]; rfl
  have f6 : F' 6 = upd (F 6) p9 (nI q) := by rw [hF]; rfl
  unfold TEq
  rw [e0, e1, e2, e3, e4, e5, f1, f2, f3, f4, f5, f6]
  refine ⟨fun j hj => ?_, fun j hj => ?_⟩
  · obtain ⟨a, b, c, d⟩ := hE.1 j hj
    refine ⟨a, b, ?_, ?_⟩
    · unfold upd
      rw [c]
    · unfold upd
      rw [d]
  · obtain ⟨a, b⟩ := hE.2 j hj
    unfold upd
    rw [a, b]
    exact ⟨rfl, rfl⟩
end FR
theorem RI.field {tr : aM} {N q y9 p9 : Nat} {o : Nat → Int32} {F : Nat → Nat → Int32} {u : mS} (hI : RI tr N o F) (hq : q < N) (hp : p9 < N) (hy : y9 < 26) (h9 : F 6 p9 = -9) (hw : ¬ Wi tr q p9) (h5 : tr 0 q = 5) (hc : tr 2 q < 6) (hu : u = (upd (upd (upd (upd (upd (upd (upd (upd (upd (upd (upd (upd o 7 2) 14 0) 16 0) 22 0) 24 (-9)) 26 0) 27 0) 28 0) 31 0) 32 0) 33 0) 34 0, fput (fput (fput (fput F 4 (6 * q + tr 2 q) (nI p9)) 5 (6 * q + tr 2 q) (nI y9)) 6 p9 (nI q)) 3 q (nI (tr 2 q + 1)))) : RI (trF tr q p9 y9 (tr 2 q)) N u.1 u.2 := by
  subst hu
  obtain ⟨h1, h2, h3, h4, h6⟩ := hI
  have hp0 := TRf.inv h1 hp h9
  exact ⟨h1.field hq hp h5 hc hp0 hy rfl rfl rfl rfl rfl rfl rfl, h2.field rfl, TRw.field h1 h3 hq h5 hp0 hw, Or.inl ⟨rfl, rfl⟩, h6.keep rfl rfl rfl rfl rfl rfl⟩
