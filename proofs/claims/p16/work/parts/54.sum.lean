/-! ===== what all bounds of one type() come to ===== -/
def mn (a b : Nat) : Nat := bif Nat.ble a b then a else b
theorem mn_min (a b : Nat) : mn a b = min a b := by
  unfold mn
  cases h : Nat.ble a b
  · have : ¬ a ≤ b := fun h1 => by
      rw [Nat.ble_eq_true_of_le h1] at h
      exact Bool.noConfusion h
    show b = min a b
    omega
  · have := Nat.le_of_ble_eq_true h
    show a = min a b
    omega
/-- the j-th copy's share, all to n -/
def sumG (F w I n : Nat) : Nat := Nat.rec (motive := fun _ => Nat) 0 (fun j r => r + mn (1502 - w) (mn (j + 1) F * (I + 2 + 2 * (j + F)) + 2 * (j + 1))) n
theorem sumG_succ (F w I n : Nat) : sumG F w I (n + 1) = sumG F w I n + mn (1502 - w) (mn (n + 1) F * (I + 2 + 2 * (n + F)) + 2 * (n + 1)) := rfl
theorem sumG_list {F w I M : Nat} (hM : M ≤ 1500) : ∀ l : List Nat, (∀ e ∈ l, e + w ≤ M + 2) → Fok F (I + 2) l → l.sum ≤ sumG F w I l.length
  | [], _, _ => Nat.le_refl _
  | e :: r, h1, h2 => by
    have h3 := sumG_list hM r (fun x hx => h1 x (by simp [hx])) h2.2
    have h4 := h1 e (by simp)
    have h5 := h2.1
    rw [List.sum_cons, List.length_cons, sumG_succ, mn_min, mn_min]
    have h6 : e ≤ min (1502 - w) (min (r.length + 1) F * (I + 2 + 2 * (r.length + F)) + 2 * (r.length + 1)) := Nat.le_min.mpr ⟨by omega, h5⟩
    exact Nat.le_trans (Nat.add_le_add h6 h3) (Nat.le_of_eq (Nat.add_comm _ _))
theorem sumG_cap {F w I : Nat} : ∀ n : Nat, sumG F w I n ≤ n * (1502 - w)
  | 0 => Nat.zero_le _
  | n + 1 => by
    have h := sumG_cap (F := F) (w := w) (I := I) n
    simp only [sumG_succ, mn_min]
    rw [show (n + 1) * (1502 - w) = n * (1502 - w) + (1502 - w) from Nat.succ_mul n _]
    exact Nat.add_le_add h (Nat.min_le_left _ _)
theorem min_mono {a a' b b' : Nat} (h : a ≤ a') (h' : b ≤ b') : min a b ≤ min a' b' := by omega
theorem sumG_mono {F w I I' : Nat} (hI : I ≤ I') : ∀ n : Nat, sumG F w I n ≤ sumG F w I' n
  | 0 => Nat.le_refl _
  | n + 1 => by
    have h := sumG_mono (F := F) (w := w) hI n
    simp only [sumG_succ, mn_min]
    exact Nat.add_le_add h (min_mono (Nat.le_refl _) (Nat.add_le_add_right (Nat.mul_le_mul_left _ (by omega)) _))
theorem sumG_len {F w I : Nat} {n m : Nat} (h : n ≤ m) : sumG F w I n ≤ sumG F w I m := by
  induction h with
  | refl => exact Nat.le_refl _
  | step _ ih =>
    rw [sumG_succ]
    omega
def allB (n : Nat) (p : Nat → Bool) : Bool := Nat.rec (motive := fun _ => Bool) true (fun i r => p i && r) n
theorem allB_ok {p : Nat → Bool} : ∀ {n : Nat}, allB n p = true → ∀ i, i < n → p i = true
  | n + 1, h, i, hi => by
    have h1 : (p n && allB n p) = true := h
    rw [Bool.and_eq_true] at h1
    rcases Nat.lt_or_eq_of_le (Nat.le_of_lt_succ hi) with h2 | h2
    · exact allB_ok h1.2 i h2
    · rw [h2]
      exact h1.1
theorem sumG_monow {F w w' I : Nat} (h : w' ≤ w) : ∀ n : Nat, sumG F w I n ≤ sumG F w' I n
  | 0 => Nat.le_refl _
  | n + 1 => by
    have h1 := sumG_monow (F := F) (I := I) h n
    simp only [sumG_succ, mn_min]
    exact Nat.add_le_add h1 (min_mono (by omega) (Nat.le_refl _))
/-- waste from lo to ahead of the next of l, and so on -/
def ckI (F : Nat) : Nat → List Nat → Bool
  | _, [] => true
  | lo, b :: r => Nat.ble (sumG F lo ((2 * (b - 1) + F) / 2) (150 - F) + 2100 + (150 - F) * (150 - F) / 3) (200000 + F) && ckI F b r
theorem ck_ok {F w : Nat} : ∀ (l : List Nat) (lo : Nat), ckI F lo l = true → lo ≤ w → (∃ b ∈ l, w < b) → sumG F w ((2 * w + F) / 2) (150 - F) + 2100 + (150 - F) * (150 - F) / 3 ≤ 200000 + F
  | [], _, _, _, ⟨b, hb, _⟩ => absurd hb (by simp)
  | b :: r, lo, h, hlo, ⟨b', hb', hw⟩ => by
    unfold ckI at h
    rw [Bool.and_eq_true] at h
    by_cases h1 : w < b
    · have h2 := Nat.le_of_ble_eq_true h.1
      have h3 := sumG_monow (F := F) (I := (2 * w + F) / 2) hlo (150 - F)
      have h4 := sumG_mono (F := F) (w := lo) (show (2 * w + F) / 2 ≤ (2 * (b - 1) + F) / 2 by omega) (150 - F)
      omega
    · refine ck_ok r b h.2 (by omega) ⟨b', ?_, hw⟩
      rcases List.mem_cons.mp hb' with h2 | h2
      · omega
      · exact h2
def tabl : List (List Nat) := [[1502], [982, 1502], [439, 1502], [265, 1502], [180, 299, 1502], [131, 186, 1502], [99, 136, 164, 368, 1502], [78, 106, 122, 136, 161, 649, 1502], [62, 83, 94, 101, 107, 112, 118, 128, 176, 1502], [51, 69, 78, 84, 88, 91, 94, 97, 101, 107, 125, 237, 1502], [42, 57, 65, 70, 74, 77, 80, 83, 87, 95, 119, 296, 1502], [36, 51, 60, 67, 75, 92, 153, 1502], [31, 46, 58, 77, 133, 1502], [29, 48, 80, 223, 1502], [30, 66, 198, 1502], [38, 114, 1502], [53, 309, 1502], [75, 1502], [105, 1502], [155, 1502], [246, 1502], [483, 1502], [1502], [1502], [1502]]
set_option maxRecDepth 100000 in
theorem sum_table : allB 25 (fun F => ckI F 0 (tabl.getD F []) && (tabl.getD F []).contains 1502) = true := by decide +kernel
theorem sum_all {F w : Nat} (hF : F ≤ 150) (hw : w ≤ 1500) : sumG F w ((2 * w + F) / 2) (150 - F) + 2100 + (150 - F) * (150 - F) / 3 ≤ 200000 + F := by
  by_cases h1 : F < 25
  · have h2 := allB_ok sum_table F h1
    rw [Bool.and_eq_true] at h2
    have h3 := ck_ok (w := w) _ 0 h2.1 (Nat.zero_le _) ⟨1502, List.contains_iff_mem.mp h2.2, by omega⟩
    omega
  · have h2 := sumG_cap (F := F) (w := w) (I := (2 * w + F) / 2) (150 - F)
    have h5 : (150 - F) * (1502 - w) ≤ 125 * 1502 := Nat.mul_le_mul (by omega) (by omega)
    have h6 : (150 - F) * (150 - F) ≤ 125 * 125 := Nat.mul_le_mul (by omega) (by omega)
    omega
theorem third {K U D : Nat} : 3 * (K * (U + D) + U * D) ≤ (K + U + D) * (K + U + D) := by
  have key : ∀ a b : Nat, 2 * (a * b) ≤ a * a + b * b := fun a b => by
    rcases Nat.le_total a b with h | h
    · obtain ⟨d, rfl⟩ := Nat.exists_eq_add_of_le h
      have : (a + d) * (a + d) = a * a + 2 * (a * d) + d * d := by
        rw [Nat.add_mul, Nat.mul_add, Nat.mul_add, Nat.mul_comm d a]
        omega
      rw [this, Nat.mul_add]
      omega
    · obtain ⟨d, rfl⟩ := Nat.exists_eq_add_of_le h
      have : (b + d) * (b + d) = b * b + 2 * (b * d) + d * d := by
        rw [Nat.add_mul, Nat.mul_add, Nat.mul_add, Nat.mul_comm d b]
        omega
      rw [this, Nat.add_mul, Nat.mul_comm d b]
      omega
  have h1 := key K U
  have h2 := key K D
  have h3 := key U D
  have e : (K + U + D) * (K + U + D) = K * K + U * U + D * D + 2 * (K * U) + 2 * (K * D) + 2 * (U * D) := by
    rw [Nat.add_mul, Nat.add_mul, Nat.mul_add, Nat.mul_add, Nat.mul_add, Nat.mul_add, Nat.mul_add, Nat.mul_add, Nat.mul_comm U K, Nat.mul_comm D K, Nat.mul_comm D U]
    omega
  rw [e, Nat.mul_add K U D]
  omega
/-- the reference's row of bounds is long enough -/
theorem bnd_ok {s : aS} {y : aG} {c : Nat} (hG : Glo s y c) : bnd s ≤ 200000 := by
  obtain ⟨⟨g1, g2, g3, g4⟩, -, -, ⟨-, g5, g6⟩, ⟨-, g7, g8, g9, g10, g11⟩, ⟨g12, g13, g14⟩, ⟨g15, g16⟩, g17, g18⟩ := hG
  have h1 := sumG_list (M := sM y) (by omega) (frl y) g17 g18
  have h2 := sumG_mono (F := sF y) (w := sw y) (show (itl y).length ≤ (2 * sw y + sF y) / 2 by omega) (frl y).length
  have h3 := sumG_len (F := sF y) (w := sw y) (I := (2 * sw y + sF y) / 2) (show (frl y).length ≤ 150 - sF y by omega)
  have h4 := sum_all (F := sF y) (w := sw y) (by omega) (by omega)
  have h5 := third (K := sK y) (U := sU y) (D := sD y)
  have h6 : (sK y + sU y + sD y) * (sK y + sU y + sD y) ≤ (150 - sF y) * (150 - sF y) := Nat.mul_le_mul (by omega) (by omega)
  have h7 : sU y + sD y ≤ (frl y).length := by omega
  omega
