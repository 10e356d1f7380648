/-! ===== the second program's signs, as lists ===== -/
def MG9 (o : Nat → Int32) (F : Nat → Nat → Int32) (L : List Int32) : Prop := o 47 = nI L.length ∧ ∀ j, j < L.length → F 46 j = L.getD j 0
theorem MG9.out {o : Nat → Int32} {F : Nat → Nat → Int32} {L : List Int32} {x : Int32} {u : mS} (h : MG9 o F L) (hu : u = if L.length < 200 then (upd o 47 (nI (L.length + 1)), fput F 46 L.length (vp_nar .byte x.toInt8.toInt32)) else (o, F)) : MG9 u.1 u.2 (lput 200 L (b8 x)) ∧ Kq [46, 47] o F u := by
  by_cases hl : L.length < 200
  · rw [if_pos hl] at hu
    subst hu
    rw [lput_lt hl]
    refine ⟨⟨by rw [List.length_append]; rfl, fun j hj => ?_⟩, (Kq.rf.o (by decide)).F (by decide)⟩
    rw [List.length_append, List.length_singleton] at hj
    rw [gD_app]
    by_cases h1 : j < L.length
    · rw [if_pos h1]
      exact (show fput F 46 L.length (vp_nar .byte x.toInt8.toInt32) 46 j = F 46 j from fput_j (by omega)).trans (h.2 j h1)
    · rw [if_neg h1, if_pos (by omega), show j = L.length by omega]
      show fput F 46 L.length (vp_nar .byte x.toInt8.toInt32) 46 L.length = _
      exact fput_s
  · rw [if_neg hl] at hu
    subst hu
    rw [lput_full hl]
    exact ⟨h, Kq.rf⟩
theorem MG9.keep {o o' : Nat → Int32} {F F' : Nat → Nat → Int32} {L : List Int32} (h : MG9 o F L) (e1 : o' 47 = o 47) (e2 : F' 46 = F 46) : MG9 o' F' L := ⟨e1.trans h.1, fun j hj => by rw [e2]; exact h.2 j hj⟩
/-- figures, the greatest place first -/
def dgs (m : Nat) : Nat → List Int32
  | 0 => []
  | j + 1 => nI (48 + m / 10 ^ j % 10) :: dgs m j
theorem fd_true {m : Nat} : ∀ j, j ≤ 10 → fd m j (10 - j) true = dgs m j
  | 0, _ => rfl
  | j + 1, h => by
    rw [fd_t (Or.inl rfl), show 9 - (10 - (j + 1)) = j by omega, show 10 - (j + 1) + 1 = 10 - j by omega, fd_true j (by omega)]
    rfl
theorem fd_skip {m c : Nat} (h1 : 1 ≤ c) (hm : m < 10 ^ c) : ∀ d, c + d ≤ 10 → fd m (c + d) (10 - (c + d)) false = fd m c (10 - c) false
  | 0, _ => rfl
  | d + 1, h => by
    have hd : m / 10 ^ (c + d) = 0 := Nat.div_eq_of_lt (Nat.lt_of_lt_of_le hm (Nat.pow_le_pow_right (by decide) (Nat.le_add_right _ _)))
    rw [show c + (d + 1) = c + d + 1 by omega, fd_f (by
      rw [show 9 - (10 - (c + d + 1)) = c + d by omega, hd]
      rintro (z | z | z)
      · exact absurd z (by decide)
      · exact z rfl
      · omega), show 10 - (c + d + 1) + 1 = 10 - (c + d) by omega]
    exact fd_skip h1 hm d (by omega)
theorem fd_dgs {m c : Nat} (hc : c ≤ 9) (hm : m < 10 ^ (c + 1)) (h0 : c = 0 ∨ m / 10 ^ c ≠ 0) : fd m 10 0 false = dgs m (c + 1) := by
  have h1 := fd_skip (m := m) (c := c + 1) (by omega) hm (9 - c) (by omega)
  rw [show c + 1 + (9 - c) = 10 by omega] at h1
  refine h1.trans ?_
  have hlt : m / 10 ^ c < 10 := Nat.div_lt_of_lt_mul (by rw [Nat.pow_succ] at hm; exact hm)
  rw [fd_t (by
    rw [show 9 - (10 - (c + 1)) = c by omega, Nat.mod_eq_of_lt hlt]
    rcases h0 with h0 | h0
    · exact Or.inr (Or.inr (by omega))
    · exact Or.inr (Or.inl h0)), show 9 - (10 - (c + 1)) = c by omega, show 10 - (c + 1) + 1 = 10 - c by omega, fd_true c (by omega)]
  rfl
theorem i32_of : ∀ d, d < 10 → (Int64.ofNat d).toInt32 = nI d := by decide +kernel
theorem rem_at {L : Int64} {q : Nat} (h : L.toInt = (q : Int)) (hq : q ≤ 2 ^ 31) : L - L / 10 * 10 = Int64.ofNat (q % 10) := by
  apply Int64.toInt_inj.mp
  have e10 : (10 : Int64).toInt = (10 : Int) := by decide
  have e1 : (L / 10).toInt = ((q / 10 : Nat) : Int) := by
    rw [Int64.toInt_div, h, e10]
    have : ((q : Int).tdiv 10) = ((q / 10 : Nat) : Int) := (Int.ofNat_tdiv q 10).symm
    rw [this]
    exact Int.bmod_eq_of_le (by omega) (by omega)
  have e2 : (L / 10 * 10).toInt = ((q / 10 * 10 : Nat) : Int) := by
    rw [Int64.toInt_mul, e1, e10]
    exact (Int.bmod_eq_of_le (by omega) (by omega)).trans (by omega)
  rw [Int64.toInt_sub, h, e2, Int64.toInt_ofNat_of_lt (by omega)]
  exact (Int.bmod_eq_of_le (by omega) (by omega)).trans (by omega)
theorem quo_at {L : Int64} {q : Nat} (h : L.toInt = (q : Int)) (hq : q ≤ 2 ^ 31) : (L / 10).toInt = ((q / 10 : Nat) : Int) := by
  have e10 : (10 : Int64).toInt = (10 : Int) := by decide
  rw [Int64.toInt_div, h, e10]
  have : ((q : Int).tdiv 10) = ((q / 10 : Nat) : Int) := (Int.ofNat_tdiv q 10).symm
  rw [this]
  exact Int.bmod_eq_of_le (by omega) (by omega)
theorem fig_cell {F1 : Nat → Nat → Int32} {f : Int32} {m n : Nat} (hf : f = nI (m / 10 ^ n % 10)) (h : ∀ q, q < n → F1 50 q = nI (m / 10 ^ q % 10)) : ∀ q, q < n + 1 → fput F1 50 n f 50 q = nI (m / 10 ^ q % 10) := fun q hq => by
  by_cases hqn : q = n
  · rw [hqn, fput_s]
    exact hf
  · rw [fput_j hqn]
    exact h q (by omega)
