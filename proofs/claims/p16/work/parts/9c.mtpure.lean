/-! ===== telling: figures of a number; what a telling leaves ===== -/
theorem l10_p (x : Int32) (h : ¬ x < 0) : 0 ≤ x.toInt64.toInt ∧ x.toInt64.toInt < 10 ^ 10 := by
  rw [i_lt] at h
  have e0 : (0 : Int32).toInt = 0 := rfl
  rw [e0] at h
  have h2 := Int32.toInt_lt x
  rw [Int32.toInt_toInt64]
  omega
theorem l10_n (x : Int32) (h : x < 0) : 0 ≤ (-x.toInt64).toInt ∧ (-x.toInt64).toInt < 10 ^ 10 := by
  rw [i_lt] at h
  have e0 : (0 : Int32).toInt = 0 := rfl
  rw [e0] at h
  have h2 := Int32.le_toInt x
  rw [Int64.toInt_neg, Int32.toInt_toInt64]
  rw [Int.bmod_eq_of_le (by omega) (by omega)]
  omega
theorem l10_d {L : Int64} {n : Nat} (h0 : 0 ≤ L.toInt) (h1 : L.toInt < 10 ^ (n + 1)) : 0 ≤ (L / 10).toInt ∧ (L / 10).toInt < 10 ^ n := by
  have h2 := Int64.toInt_lt L
  have e10 : (10 : Int64).toInt = 10 := rfl
  rw [Int64.toInt_div, e10, Int.tdiv_eq_ediv_of_nonneg h0]
  rw [Int.bmod_eq_of_le (by omega) (by omega)]
  have hp : (10 : Int) ^ (n + 1) = 10 ^ n * 10 := Int.pow_succ 10 n
  rw [hp] at h1
  refine ⟨by omega, by omega⟩
theorem lcmp_g {L : Int64} : 0 < lg_cmp L 0 ↔ 0 < L.toInt := by
  unfold lg_cmp
  have e0 : (0 : Int64).toInt = 0 := rfl
  by_cases h : L > 0
  · rw [if_pos h]
    have h' : (0 : Int64) < L := h
    rw [Int64.lt_iff_toInt_lt, e0] at h'
    exact ⟨fun _ => h', fun _ => by decide⟩
  · rw [if_neg h]
    have h' : ¬ (0 : Int64) < L := h
    rw [Int64.lt_iff_toInt_lt, e0] at h'
    by_cases h2 : L = 0
    · rw [if_pos h2]
      exact ⟨fun h => absurd h (by decide), fun h => absurd h h'⟩
    · rw [if_neg h2]
      exact ⟨fun h => absurd h (by decide), fun h => absurd h h'⟩
abbrev LTl : List Nat := [46, 47, 49, 50]
abbrev LTa : List Nat := [46, 47, 48, 49, 50]
def TL (mo bm : Nat) (o : Nat → Int32) (F : Nat → Nat → Int32) (u : mS) : Prop := ∃ b, bm ≤ b ∧ b ≤ mo ∧ u.1 47 = nI b ∧ Kq LTl o F u
theorem TL.rf {mo bm : Nat} {o : Nat → Int32} {F : Nat → Nat → Int32} (h : o 47 = nI bm) (hb : bm ≤ mo) : TL mo bm o F (o, F) := ⟨bm, Nat.le_refl _, hb, h, Kq.rf⟩
theorem TL.out {mo bm : Nat} {x : Int32} {o : Nat → Int32} {F : Nat → Nat → Int32} {u : mS} (h : o 47 = nI bm) (hb : bm ≤ mo) (hu : u = if bm < mo then (upd o 47 (nI (bm + 1)), fput F 46 bm x) else (o, F)) : ∃ b, bm ≤ b ∧ b ≤ mo ∧ (bm < mo → bm < b) ∧ u.1 47 = nI b ∧ Kq LTl o F u := by
  by_cases hlt : bm < mo
  · rw [if_pos hlt] at hu
    rw [hu]
    exact ⟨bm + 1, by omega, hlt, fun _ => by omega, rfl, (Kq.rf.o (by decide)).F (by decide)⟩
  · rw [if_neg hlt] at hu
    rw [hu]
    exact ⟨bm, Nat.le_refl _, hb, fun h => absurd h hlt, h, Kq.rf⟩
theorem MR.tella {s : aS} {ix : Nat → Nat → Nat} {o o' : Nat → Int32} {F F' : Nat → Nat → Int32} (h : MR s ix o F) (hK : Kq LTa o F (o', F')) : MR s ix o' F' := by
  have eo : ∀ k, k ∉ LTa → o' k = o k := fun k hk => (hK k hk).1
  have eF : ∀ k, k ∉ LTa → F' k = F k := fun k hk => (hK k hk).2
  obtain ⟨⟨a1, a2, a3, a4, a5, a6, a7, a8⟩, h2, h3, h4, h5, h6, h7, h8, h9⟩ := h
  refine ⟨⟨(eo 7 (by decide)).trans a1, (eo 14 (by decide)).trans a2, (eo 16 (by decide)).trans a3, (eo 26 (by decide)).trans a4, (eo 27 (by decide)).trans a5, (eo 24 (by decide)).trans a6, (eo 25 (by decide)).trans a7, (eo 28 (by decide)).trans a8⟩, h2, ?_, ?_, ?_, ?_, ?_, h8, ?_⟩
  · unfold RT
    rw [eF 8 (by decide), eF 9 (by decide)]
    exact h3
  · unfold RA
    rw [eF 10 (by decide), eF 11 (by decide)]
    exact h4
  · unfold RR
    rw [eF 10 (by decide), eF 12 (by decide), eF 13 (by decide)]
    exact h5
  · unfold RV
    rw [eF 10 (by decide), eF 15 (by decide)]
    exact h6
  · unfold RB Rw
    rw [eF 17 (by decide), eF 18 (by decide), eF 19 (by decide), eF 20 (by decide), eF 21 (by decide)]
    exact h7
  · unfold RQ
    rw [eF 29 (by decide), eF 30 (by decide)]
    exact h9
theorem MR.tell {s : aS} {ix : Nat → Nat → Nat} {o o' : Nat → Int32} {F F' : Nat → Nat → Int32} (h : MR s ix o F) (hK : Kq LTl o F (o', F')) : MR s ix o' F' := h.tella (hK.mono (by decide))
theorem nI_n0 {j : Nat} (h : j < 2 ^ 31) : ¬ nI j < 0 := by
  rw [i_lt, nI_toInt h]
  have e0 : (0 : Int32).toInt = 0 := rfl
  omega
