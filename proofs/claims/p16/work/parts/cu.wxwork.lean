/-! ===== the class's work ===== -/
theorem ans_1 {r : wmS × Nat} {v : Int32} (h : v = ans r) (hz : hlt r.1 ≠ 0) (hv : v ≠ -6) : hlt r.1 = 1 := by
  by_cases h1 : hlt r.1 = 1
  · exact h1
  · exact absurd (h.trans ((if_neg hz).trans (if_neg h1))) hv
theorem ans_2 {r : wmS × Nat} {v : Int32} (h : v = ans r) (hz : hlt r.1 ≠ 0) (hv : v = -6) (h2 : hlt r.1 ≤ 2) : hlt r.1 = 2 := by
  by_cases h1 : hlt r.1 = 1
  · exact absurd (hv.symm.trans (h.trans ((if_neg hz).trans (if_pos h1)))) (by decide)
  · omega
def WO9 (u : cS) (r : wmS × Nat) (v : Int32) : Prop := v = nI (hlt r.1) ∧ u.1 113 = nI (hlt r.1) ∧ u.1 111 = nI (bgn r.1) ∧ u.1 112 = wmpl9 r
