/-! ===== the class: a NODE more ===== -/
theorem uT_0 {S : cS} {g2 g3 g4 g5 : Nat → Int32} : kF (uT S g2 g3 g4 g5) 0 = kF S 0 := rfl
theorem uT_1 {S : cS} {g2 g3 g4 g5 : Nat → Int32} : kF (uT S g2 g3 g4 g5) 1 = kF S 1 := rfl
theorem six_s {f0 f g : Nat → Int32} {N i : Nat} (h1 : ∀ j, j < 6 * N → f j = f0 j) (h2 : ∀ w, w < i → f (6 * N + w) = -9) (a : ∀ j, j < 6 * N + i → g j = f j) (b : g (6 * N + i) = -9) : (∀ j, j < 6 * N → g j = f0 j) ∧ ∀ w, w < i + 1 → g (6 * N + w) = -9 := by
  refine ⟨fun j hj => (a j (by omega)).trans (h1 j hj), fun w hw => ?_⟩
  by_cases e : w = i
  · rw [e]; exact b
  · rw [a _ (by omega)]
    exact h2 w (by omega)
theorem i5_of {i j : Nat} (h : i + (j + 1) = 6) : i ≤ 5 := by omega
theorem s6_of {i j : Nat} (h : i + (j + 1) = 6) : i + 1 + j = 6 := by omega
theorem nge6 {i : Nat} (h : i ≤ 5) : ¬ (6 : Int32) ≤ nI i := fun h1 => by
  have h2 := (nI_leI (a := 6) (b := i) (by omega) (by omega)).mp h1
  omega
theorem ad6 {S : cS} {r N i : Nat} (hk : kK S r = 6 * N + i) (hN : N < 120) (h : i ≤ 5) (hl : lim r = 720) : kK S r < lim r := by omega
theorem ad7 {S : cS} {r N : Nat} (hk : kK S r = N) (hN : N < 120) (hl : lim r = 120) : kK S r < lim r := by omega
theorem ad_F2 {S u : cS} {r n q N : Nat} {g : Nat → Int32} {x : Int32} (hu : u = uR S r (kK S r + 1) n q g) (h1 : ∀ j, j < kK S r → g j = kF S r j) (h2 : g (kK S r) = x) (hk : kK S r = N) : (∀ j, j < N → kF u r j = kF S r j) ∧ kF u r N = x := by
  obtain ⟨a, b⟩ := ad_F hu h1 h2
  rw [hk] at a b
  exact ⟨a, b⟩
def ANP (S u : cS) (N : Nat) (kd vv na nb nc : Int32) : Prop := ∃ g0 g1 g2 g3 g4 g5 : Nat → Int32, (((∀ j, j < N → g0 j = kF S 0 j) ∧ g0 N = kd) ∧ ((∀ j, j < N → g1 j = kF S 1 j) ∧ g1 N = t_mark kd vv) ∧ ((∀ j, j < N → g2 j = kF S 2 j) ∧ g2 N = -9) ∧ ((∀ j, j < N → g3 j = kF S 3 j) ∧ g3 N = 0) ∧ ((∀ j, j < 6 * N → g4 j = kF S 4 j) ∧ ∀ w, w < 6 → g4 (6 * N + w) = -9) ∧ ((∀ j, j < 6 * N → g5 j = kF S 5 j) ∧ ∀ w, w < 6 → g5 (6 * N + w) = -9)) ∧ TI u (N + 1) ∧ kF u 0 = g0 ∧ kF u 1 = g1 ∧ kF u 2 = b2_3 g2 g3 (N + 1) (nI N) (p_parts kd) na nb nc ∧ kF u 3 = b3_3 g3 (N + 1) (nI N) (p_parts kd) ∧ kF u 4 = bg_3 g4 g3 (N + 1) (nI N) (p_parts kd) na nb nc ∧ kF u 5 = bg_3 g5 g3 (N + 1) (nI N) (p_parts kd) (-9) (-9) (-9)

def ANF (S S1 : cS) (N : Nat) (kd vv : Int32) : Prop := ((∀ j, j < N → kF S1 0 j = kF S 0 j) ∧ kF S1 0 N = kd) ∧ ((∀ j, j < N → kF S1 1 j = kF S 1 j) ∧ kF S1 1 N = t_mark kd vv) ∧ ((∀ j, j < N → kF S1 2 j = kF S 2 j) ∧ kF S1 2 N = -9) ∧ ((∀ j, j < N → kF S1 3 j = kF S 3 j) ∧ kF S1 3 N = 0) ∧ ((∀ j, j < 6 * N → kF S1 4 j = kF S 4 j) ∧ ∀ w, w < 6 → kF S1 4 (6 * N + w) = -9) ∧ ((∀ j, j < 6 * N → kF S1 5 j = kF S 5 j) ∧ ∀ w, w < 6 → kF S1 5 (6 * N + w) = -9)
theorem bq0_2 {g2 g3 : Nat → Int32} {N : Nat} {o m a b c : Int32} (c1 : m < 1) (c2 : m < 2) (c3 : m < 3) : b2_3 g2 g3 N o m a b c = g2 := by
  simp only [b2_3, b2_2, b2_1, b3_2, b3_1, c1, c2, c3, if_true, if_false]
theorem bq0_3 {g3 : Nat → Int32} {N : Nat} {o m : Int32} (c1 : m < 1) (c2 : m < 2) (c3 : m < 3) : b3_3 g3 N o m = g3 := by
  simp only [b3_3, b3_2, b3_1, c1, c2, c3, if_true, if_false]
theorem bq0_g {g g3 : Nat → Int32} {N : Nat} {o m a b c : Int32} (c1 : m < 1) (c2 : m < 2) (c3 : m < 3) : bg_3 g g3 N o m a b c = g := by
  simp only [bg_3, bg_2, bg_1, b3_2, b3_1, c1, c2, c3, if_true, if_false]
theorem bq1_2 {g2 g3 : Nat → Int32} {N : Nat} {o m a b c : Int32} (c1 : ¬ m < 1) (c2 : m < 2) (c3 : m < 3) : b2_3 g2 g3 N o m a b c = (a_f2 g2 g3 N o a) := by
  simp only [b2_3, b2_2, b2_1, b3_2, b3_1, c1, c2, c3, if_true, if_false]
theorem bq1_3 {g3 : Nat → Int32} {N : Nat} {o m : Int32} (c1 : ¬ m < 1) (c2 : m < 2) (c3 : m < 3) : b3_3 g3 N o m = (a_f3 g3 N o) := by
  simp only [b3_3, b3_2, b3_1, c1, c2, c3, if_true, if_false]
theorem bq1_g {g g3 : Nat → Int32} {N : Nat} {o m a b c : Int32} (c1 : ¬ m < 1) (c2 : m < 2) (c3 : m < 3) : bg_3 g g3 N o m a b c = (a_g g g3 N o a) := by
  simp only [bg_3, bg_2, bg_1, b3_2, b3_1, c1, c2, c3, if_true, if_false]
theorem bq2_2 {g2 g3 : Nat → Int32} {N : Nat} {o m a b c : Int32} (c1 : ¬ m < 1) (c2 : ¬ m < 2) (c3 : m < 3) : b2_3 g2 g3 N o m a b c = (a_f2 (a_f2 g2 g3 N o a) (a_f3 g3 N o) N o b) := by
  simp only [b2_3, b2_2, b2_1, b3_2, b3_1, c1, c2, c3, if_true, if_false]
theorem bq2_3 {g3 : Nat → Int32} {N : Nat} {o m : Int32} (c1 : ¬ m < 1) (c2 : ¬ m < 2) (c3 : m < 3) : b3_3 g3 N o m = (a_f3 (a_f3 g3 N o) N o) := by
  simp only [b3_3, b3_2, b3_1, c1, c2, c3, if_true, if_false]
theorem bq2_g {g g3 : Nat → Int32} {N : Nat} {o m a b c : Int32} (c1 : ¬ m < 1) (c2 : ¬ m < 2) (c3 : m < 3) : bg_3 g g3 N o m a b c = (a_g (a_g g g3 N o a) (a_f3 g3 N o) N o b) := by
  simp only [bg_3, bg_2, bg_1, b3_2, b3_1, c1, c2, c3, if_true, if_false]
theorem bq3_2 {g2 g3 : Nat → Int32} {N : Nat} {o m a b c : Int32} (c1 : ¬ m < 1) (c2 : ¬ m < 2) (c3 : ¬ m < 3) : b2_3 g2 g3 N o m a b c = (a_f2 (a_f2 (a_f2 g2 g3 N o a) (a_f3 g3 N o) N o b) (a_f3 (a_f3 g3 N o) N o) N o c) := by
  simp only [b2_3, b2_2, b2_1, b3_2, b3_1, c1, c2, c3, if_true, if_false]
theorem bq3_3 {g3 : Nat → Int32} {N : Nat} {o m : Int32} (c1 : ¬ m < 1) (c2 : ¬ m < 2) (c3 : ¬ m < 3) : b3_3 g3 N o m = (a_f3 (a_f3 (a_f3 g3 N o) N o) N o) := by
  simp only [b3_3, b3_2, b3_1, c1, c2, c3, if_true, if_false]
theorem bq3_g {g g3 : Nat → Int32} {N : Nat} {o m a b c : Int32} (c1 : ¬ m < 1) (c2 : ¬ m < 2) (c3 : ¬ m < 3) : bg_3 g g3 N o m a b c = (a_g (a_g (a_g g g3 N o a) (a_f3 g3 N o) N o b) (a_f3 (a_f3 g3 N o) N o) N o c) := by
  simp only [bg_3, bg_2, bg_1, b3_2, b3_1, c1, c2, c3, if_true, if_false]
theorem ANP.mk0 {S S1 : cS} {N : Nat} {kd vv na nb nc r : Int32} (hr : r = p_parts kd) (hF : ANF S S1 N kd vv) (hT : TI S1 (N + 1)) (c1 : r < 1) (c2 : r < 2) (c3 : r < 3) : ANP S S1 N kd vv na nb nc :=
  ⟨kF S1 0, kF S1 1, kF S1 2, kF S1 3, kF S1 4, kF S1 5, hF, hT, rfl, rfl, (by exact (bq0_2 (hr ▸ c1) (hr ▸ c2) (hr ▸ c3)).symm), (by exact (bq0_3 (hr ▸ c1) (hr ▸ c2) (hr ▸ c3)).symm), (by exact (bq0_g (hr ▸ c1) (hr ▸ c2) (hr ▸ c3)).symm), (by exact (bq0_g (hr ▸ c1) (hr ▸ c2) (hr ▸ c3)).symm)⟩
theorem ANP.mk1 {S S1 S2 : cS} {N : Nat} {kd vv na nb nc r : Int32} (hr : r = p_parts kd) (hF : ANF S S1 N kd vv) (hT : TI S2 (N + 1)) (e1 : (S2 = uT S1 (a_f2 (kF S1 2) (kF S1 3) (N + 1) (nI N) na) (a_f3 (kF S1 3) (N + 1) (nI N)) (a_g (kF S1 4) (kF S1 3) (N + 1) (nI N) na) (a_g (kF S1 5) (kF S1 3) (N + 1) (nI N) (-9)))) (c1 : ¬ r < 1) (c2 : r < 2) (c3 : r < 3) : ANP S S2 N kd vv na nb nc :=
  ⟨kF S1 0, kF S1 1, kF S1 2, kF S1 3, kF S1 4, kF S1 5, hF, hT, (by rw [e1, uT_0]), (by rw [e1, uT_1]), (by rw [e1, uT_2]; exact (bq1_2 (hr ▸ c1) (hr ▸ c2) (hr ▸ c3)).symm), (by rw [e1, uT_3]; exact (bq1_3 (hr ▸ c1) (hr ▸ c2) (hr ▸ c3)).symm), (by rw [e1, uT_4]; exact (bq1_g (hr ▸ c1) (hr ▸ c2) (hr ▸ c3)).symm), (by rw [e1, uT_5]; exact (bq1_g (hr ▸ c1) (hr ▸ c2) (hr ▸ c3)).symm)⟩
theorem ANP.mk2 {S S1 S2 S3 : cS} {N : Nat} {kd vv na nb nc r : Int32} (hr : r = p_parts kd) (hF : ANF S S1 N kd vv) (hT : TI S3 (N + 1)) (e1 : (S2 = uT S1 (a_f2 (kF S1 2) (kF S1 3) (N + 1) (nI N) na) (a_f3 (kF S1 3) (N + 1) (nI N)) (a_g (kF S1 4) (kF S1 3) (N + 1) (nI N) na) (a_g (kF S1 5) (kF S1 3) (N + 1) (nI N) (-9)))) (e2 : (S3 = uT S2 (a_f2 (kF S2 2) (kF S2 3) (N + 1) (nI N) nb) (a_f3 (kF S2 3) (N + 1) (nI N)) (a_g (kF S2 4) (kF S2 3) (N + 1) (nI N) nb) (a_g (kF S2 5) (kF S2 3) (N + 1) (nI N) (-9)))) (c1 : ¬ r < 1) (c2 : ¬ r < 2) (c3 : r < 3) : ANP S S3 N kd vv na nb nc :=
  ⟨kF S1 0, kF S1 1, kF S1 2, kF S1 3, kF S1 4, kF S1 5, hF, hT, (by rw [e2, uT_0, e1, uT_0]), (by rw [e2, uT_1, e1, uT_1]), (by rw [e2, uT_2, e1, uT_2, uT_3]; exact (bq2_2 (hr ▸ c1) (hr ▸ c2) (hr ▸ c3)).symm), (by rw [e2, uT_3, e1, uT_3]; exact (bq2_3 (hr ▸ c1) (hr ▸ c2) (hr ▸ c3)).symm), (by rw [e2, uT_4, e1, uT_4, uT_3]; exact (bq2_g (hr ▸ c1) (hr ▸ c2) (hr ▸ c3)).symm), (by rw [e2, uT_5, e1, uT_5, uT_3]; exact (bq2_g (hr ▸ c1) (hr ▸ c2) (hr ▸ c3)).symm)⟩
theorem ANP.mk3 {S S1 S2 S3 S4 : cS} {N : Nat} {kd vv na nb nc r : Int32} (hr : r = p_parts kd) (hF : ANF S S1 N kd vv) (hT : TI S4 (N + 1)) (e1 : (S2 = uT S1 (a_f2 (kF S1 2) (kF S1 3) (N + 1) (nI N) na) (a_f3 (kF S1 3) (N + 1) (nI N)) (a_g (kF S1 4) (kF S1 3) (N + 1) (nI N) na) (a_g (kF S1 5) (kF S1 3) (N + 1) (nI N) (-9)))) (e2 : (S3 = uT S2 (a_f2 (kF S2 2) (kF S2 3) (N + 1) (nI N) nb) (a_f3 (kF S2 3) (N + 1) (nI N)) (a_g (kF S2 4) (kF S2 3) (N + 1) (nI N) nb) (a_g (kF S2 5) (kF S2 3) (N + 1) (nI N) (-9)))) (e3 : (S4 = uT S3 (a_f2 (kF S3 2) (kF S3 3) (N + 1) (nI N) nc) (a_f3 (kF S3 3) (N + 1) (nI N)) (a_g (kF S3 4) (kF S3 3) (N + 1) (nI N) nc) (a_g (kF S3 5) (kF S3 3) (N + 1) (nI N) (-9)))) (c1 : ¬ r < 1) (c2 : ¬ r < 2) (c3 : ¬ r < 3) : ANP S S4 N kd vv na nb nc :=
  ⟨kF S1 0, kF S1 1, kF S1 2, kF S1 3, kF S1 4, kF S1 5, hF, hT, (by rw [e3, uT_0, e2, uT_0, e1, uT_0]), (by rw [e3, uT_1, e2, uT_1, e1, uT_1]), (by rw [e3, uT_2, e2, uT_2, uT_3, e1, uT_2, uT_3]; exact (bq3_2 (hr ▸ c1) (hr ▸ c2) (hr ▸ c3)).symm), (by rw [e3, uT_3, e2, uT_3, e1, uT_3]; exact (bq3_3 (hr ▸ c1) (hr ▸ c2) (hr ▸ c3)).symm), (by rw [e3, uT_4, e2, uT_4, uT_3, e1, uT_4, uT_3]; exact (bq3_g (hr ▸ c1) (hr ▸ c2) (hr ▸ c3)).symm), (by rw [e3, uT_5, e2, uT_5, uT_3, e1, uT_5, uT_3]; exact (bq3_g (hr ▸ c1) (hr ▸ c2) (hr ▸ c3)).symm)⟩

