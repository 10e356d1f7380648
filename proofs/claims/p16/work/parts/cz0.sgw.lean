/-! ===== signs told, as lists ===== -/
def i2c9 (x : Int32) : Int32 := (x.toUInt32 % 65536).toInt32
def b8 (x : Int32) : Int32 := vp_nar .byte (x.toInt8.toInt32)
def lput (cap : Nat) (L : List Int32) (b : Int32) : List Int32 := if L.length < cap then L ++ [b] else L
def lputs (cap : Nat) : List Int32 → List Int32 → List Int32
  | L, [] => L
  | L, b :: bs => lputs cap (lput cap L (b8 b)) bs
theorem lput_lt {cap : Nat} {L : List Int32} {b : Int32} (h : L.length < cap) : lput cap L b = L ++ [b] := if_pos h
theorem lput_full {cap : Nat} {L : List Int32} {b : Int32} (h : ¬ L.length < cap) : lput cap L b = L := if_neg h
theorem lput_len {cap : Nat} {L : List Int32} {b : Int32} (h : L.length ≤ cap) : (lput cap L b).length ≤ cap ∧ L.length ≤ (lput cap L b).length := by
  unfold lput
  by_cases hl : L.length < cap
  · rw [if_pos hl, List.length_append, List.length_singleton]
    omega
  · rw [if_neg hl]
    omega
theorem lputs_len {cap : Nat} : ∀ (bs L : List Int32), L.length ≤ cap → (lputs cap L bs).length ≤ cap ∧ L.length ≤ (lputs cap L bs).length
  | [], L, h => ⟨h, Nat.le_refl _⟩
  | b :: bs, L, h => by
    obtain ⟨h1, h2⟩ := lput_len (b := b8 b) h
    obtain ⟨h3, h4⟩ := lputs_len bs _ h1
    exact ⟨h3, Nat.le_trans h2 h4⟩
def SG (S : cS) (r : Nat) (L : List Int32) : Prop := S.1 (r - 200) = nI L.length ∧ ∀ j, j < L.length → kF S r j = L.getD j 0
theorem gD_app {L : List Int32} {b : Int32} {j : Nat} : (L ++ [b]).getD j 0 = if j < L.length then L.getD j 0 else if j = L.length then b else 0 := by
  rw [List.getD_eq_getElem?_getD, List.getD_eq_getElem?_getD]
  by_cases h : j < L.length
  · rw [if_pos h, List.getElem?_append_left h]
  · rw [if_neg h, List.getElem?_append_right (by omega)]
    by_cases h2 : j = L.length
    · rw [if_pos h2, h2, Nat.sub_self]
      rfl
    · rw [if_neg h2, List.getElem?_eq_none (by simp only [List.length_singleton]; omega)]
      rfl
theorem SG.put {S u : cS} {r : Nat} {L : List Int32} {b : Int32} (h : SG S r L) (e1 : u.1 (r - 200) = nI (L.length + 1)) (e2 : kF u r = upd (kF S r) L.length b) : SG u r (L ++ [b]) := by
  refine ⟨by rw [e1, List.length_append]; rfl, fun j hj => ?_⟩
  rw [List.length_append, List.length_singleton] at hj
  rw [e2, gD_app]
  by_cases hl : j < L.length
  · rw [if_pos hl, upd_n (by omega)]
    exact h.2 j hl
  · rw [if_neg hl, if_pos (by omega), show j = L.length by omega]
    exact upd_s
theorem SG.aw {rs is : List Nat} {S u : cS} {r : Nat} {L : List Int32} (h : SG S r L) (a : AW rs is S u) (h1 : 400 ≤ r) (h2 : r < 403) (hi : r - 200 ∉ is) : SG u r L := by
  refine ⟨(a.1 _ hi).trans h.1, fun j hj => ?_⟩
  rw [a.2.2.2.2 r h1 h2 hi]
  exact h.2 j hj
/-- what at(i) answers -/
def sgat (L : List Int32) (y : Int32) : Int32 := if y = -1 then nI L.length else if y < 0 then -9 else if nI L.length ≤ y then -9 else L.getD y.toNatClampNeg 0
/-! figures -/
def fd (m : Nat) : Nat → Nat → Bool → List Int32
  | 0, _, _ => []
  | j + 1, i, bg => if bg = true ∨ m / 10 ^ (9 - i) % 10 ≠ 0 ∨ i = 9 then nI (48 + m / 10 ^ (9 - i) % 10) :: fd m j (i + 1) true else fd m j (i + 1) false
def mag (y : Int32) : Nat := y.toInt.natAbs
def figs (y : Int32) : List Int32 := (if y < 0 then [45] else []) ++ fd (mag y) 10 0 false
theorem mag_le {y : Int32} : mag y ≤ 2 ^ 31 := by
  have h1 := Int32.le_toInt y
  have h2 := Int32.toInt_lt y
  unfold mag
  omega
theorem i2c_fig : ∀ d, d < 10 → i2c9 ((48 + Int64.ofNat d).toInt32) = nI (48 + d) := by decide +kernel
theorem i2c_let : ∀ k, k < 26 → i2c9 (97 + nI k) = nI (97 + k) := by decide +kernel
theorem pv_toInt : ∀ i, i < 10 → (pv i).toInt = ((10 ^ (9 - i) : Nat) : Int) := by decide +kernel
theorem pv_one : ∀ i, i < 10 → (pv i = 1 ↔ i = 9) := by decide +kernel
theorem of_0 {d : Nat} (hd : d < 10) : Int64.ofNat d = 0 ↔ d = 0 := by
  revert d
  decide +kernel
theorem neg_rest {y : Int32} (h : y < 0) : (-(y.toInt64)).toInt = (mag y : Int) := by
  have h1 := Int32.le_toInt y
  have h2 : y.toInt < 0 := by
    have := Int32.lt_iff_toInt_lt.mp h
    exact this
  rw [Int64.toInt_neg, Int32.toInt_toInt64]
  unfold mag
  rw [Int.bmod_eq_of_le (by omega) (by omega)]
  omega
theorem pos_rest {y : Int32} (h : ¬ y < 0) : (y.toInt64).toInt = (mag y : Int) := by
  have h2 : ¬ y.toInt < 0 := fun z => h (Int32.lt_iff_toInt_lt.mpr z)
  rw [Int32.toInt_toInt64]
  unfold mag
  omega
theorem cmp_0 {y : Int32} : (0 ≤ lg_cmp (y.toInt64) 0) ↔ ¬ y < 0 := by
  unfold lg_cmp
  have e : ∀ a b : Int64, a > b ↔ b.toInt < a.toInt := fun a b => Int64.lt_iff_toInt_lt
  have h0 : (0 : Int64).toInt = 0 := by decide
  have hy : y < 0 ↔ y.toInt < 0 := Int32.lt_iff_toInt_lt
  have hc : (y.toInt64 > 0) ↔ 0 < y.toInt := by
    rw [e, h0, Int32.toInt_toInt64]
  have hz : (y.toInt64 = 0) ↔ y.toInt = 0 := by
    rw [← Int64.toInt_inj, h0, Int32.toInt_toInt64]
  by_cases g : y.toInt64 > 0
  · rw [if_pos g]
    exact ⟨fun _ z => by have := hc.mp g; have := hy.mp z; omega, fun _ => by decide⟩
  · rw [if_neg g]
    by_cases g2 : y.toInt64 = 0
    · rw [if_pos g2]
      exact ⟨fun _ z => by have := hz.mp g2; have := hy.mp z; omega, fun _ => by decide⟩
    · rw [if_neg g2]
      refine ⟨fun z => absurd z (by decide), fun z => ?_⟩
      exfalso
      have h1 : ¬ 0 < y.toInt := fun q => g (hc.mpr q)
      have h2 : ¬ y.toInt = 0 := fun q => g2 (hz.mpr q)
      have h3 : ¬ y.toInt < 0 := fun q => z (hy.mpr q)
      omega
theorem cY_F {S : cS} {r k : Nat} {f : Nat → Int32} {x : Int32} : kF (cO (cY S r f) k x) r = f := if_pos rfl
theorem lg0 {a b : Int64} : lg_cmp a b = 0 ↔ a = b := by
  unfold lg_cmp
  by_cases g : a > b
  · rw [if_pos g]
    refine ⟨fun z => absurd z (by decide), fun z => ?_⟩
    subst z
    exact absurd (Int64.lt_iff_toInt_lt.mp g) (Int.lt_irrefl _)
  · rw [if_neg g]
    by_cases h : a = b
    · rw [if_pos h]
      exact ⟨fun _ => h, fun _ => rfl⟩
    · rw [if_neg h]
      exact ⟨fun z => absurd z (by decide), fun z => absurd z h⟩
theorem dec_1 : decide ((1 : Int32) ≠ 0) = true := by decide
theorem dec_0 : decide ((0 : Int32) ≠ 0) = false := by decide
theorem fd_t {m j i : Nat} {bg : Bool} (h : bg = true ∨ m / 10 ^ (9 - i) % 10 ≠ 0 ∨ i = 9) : fd m (j + 1) i bg = nI (48 + m / 10 ^ (9 - i) % 10) :: fd m j (i + 1) true := if_pos h
theorem fd_f {m j i : Nat} {bg : Bool} (h : ¬ (bg = true ∨ m / 10 ^ (9 - i) % 10 ≠ 0 ∨ i = 9)) : fd m (j + 1) i bg = fd m j (i + 1) false := if_neg h
theorem fig_t {cap m j i : Nat} {L T : List Int32} {bg f : Int32} (h : lputs cap L (fd m (j + 1) i (decide (bg ≠ 0))) = T) (hc : decide (bg ≠ 0) = true ∨ m / 10 ^ (9 - i) % 10 ≠ 0 ∨ i = 9) (hf : f = nI (48 + m / 10 ^ (9 - i) % 10)) : lputs cap (lput cap L (b8 f)) (fd m j (i + 1) (decide ((1 : Int32) ≠ 0))) = T := by
  rw [← h, fd_t hc, hf, dec_1]
  rfl
theorem fig_f {cap m j i : Nat} {L T : List Int32} {bg : Int32} (h : lputs cap L (fd m (j + 1) i (decide (bg ≠ 0))) = T) (hc : ¬ (decide (bg ≠ 0) = true ∨ m / 10 ^ (9 - i) % 10 ≠ 0 ∨ i = 9)) : lputs cap L (fd m j (i + 1) (decide ((0 : Int32) ≠ 0))) = T := by
  rw [← h, fd_f hc, dec_0]
theorem figs_n {cap : Nat} {L : List Int32} {y : Int32} (h : y < 0) : lputs cap (lput cap L (b8 45)) (fd (mag y) 10 0 (decide ((0 : Int32) ≠ 0))) = lputs cap L (figs y) := by
  unfold figs
  rw [if_pos h, dec_0]
  rfl
theorem figs_p {cap : Nat} {L : List Int32} {y : Int32} (h : ¬ y < 0) : lputs cap L (fd (mag y) 10 0 (decide ((0 : Int32) ≠ 0))) = lputs cap L (figs y) := by
  unfold figs
  rw [if_neg h, dec_0]
  rfl
theorem fig_at2 {r : Int64} {m i : Nat} (hr : r.toInt = (m : Int)) (hm : m ≤ 2 ^ 31) (hi : i < 10) : r / pv i - r / pv i / 10 * 10 = Int64.ofNat (m / 10 ^ (9 - i) % 10) := by
  apply Int64.toInt_inj.mp
  have hd : m / 10 ^ (9 - i) % 10 < 10 := Nat.mod_lt _ (by decide)
  have hq : m / 10 ^ (9 - i) ≤ 2 ^ 31 := Nat.le_trans (Nat.div_le_self _ _) hm
  have e10 : (10 : Int64).toInt = (10 : Int) := by decide
  have e0 : (r / pv i).toInt = ((m / 10 ^ (9 - i) : Nat) : Int) := by
    rw [Int64.toInt_div, hr, pv_toInt i hi, ← Int.ofNat_tdiv]
    generalize m / 10 ^ (9 - i) = q at hq ⊢
    exact Int.bmod_eq_of_le (by omega) (by omega)
  generalize r / pv i = q9 at e0 ⊢
  generalize m / 10 ^ (9 - i) = q at hq hd e0 ⊢
  have e1 : (q9 / 10).toInt = ((q / 10 : Nat) : Int) := by
    rw [Int64.toInt_div, e0, e10]
    have : ((q : Int).tdiv 10) = ((q / 10 : Nat) : Int) := (Int.ofNat_tdiv q 10).symm
    rw [this]
    exact Int.bmod_eq_of_le (by omega) (by omega)
  have e2 : (q9 / 10 * 10).toInt = ((q / 10 * 10 : Nat) : Int) := by
    rw [Int64.toInt_mul, e1, e10]
    exact (Int.bmod_eq_of_le (by omega) (by omega)).trans (by omega)
  rw [Int64.toInt_sub, e0, e2, Int64.toInt_ofNat_of_lt (by omega)]
  exact (Int.bmod_eq_of_le (by omega) (by omega)).trans (by omega)
