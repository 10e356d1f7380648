/-! ===== told: both programs tell the same ===== -/
theorem part_all {f3 g : Nat → Int32} {N q c i : Nat} (hq : q < N) (hN : N ≤ 120) (h : f3 q = nI c) (hc : c ≤ 6) (hi : i < 6) : t_part f3 g N (nI q) (nI i) = if i < c then g (6 * q + i) else -9 := by
  by_cases hj : i < c
  · rw [if_pos hj, part_at hq hN h hc hj]
  · rw [if_neg hj]
    unfold t_part
    rw [if_neg (nI_n0 (by omega)), rget_at hq (by omega), h, if_pos ((nI_leI (by omega) (by omega)).mpr (by omega))]
theorem told_eq {S : cS} {tr : aM} {N : Nat} {o : Nat → Int32} {F : Nat → Nat → Int32} {x y r1 r2 : Int32} (hR : LR S tr N o F) (h1 : r1 = x_tv S N x y) (h2 : (r2 = -1 ∧ ¬ ((∃ j, j < N ∧ x = nI j) ∧ ∃ w, w < 16 ∧ y = nI w)) ∨ ∃ j w, j < N ∧ x = nI j ∧ w < 16 ∧ y = nI w ∧ r2 = mTold F j w) : r1 = r2 := by
  obtain ⟨hCI, hI, hE, hZ⟩ := hR
  have hN := hI.1.2.1
  have h16 : (16 : Int32) = nI 16 := by decide +kernel
  rw [h1]
  rcases h2 with ⟨rfl, hn⟩ | ⟨j, w, hj, rfl, hw, rfl, rfl⟩
  · unfold x_tv
    by_cases hx : ∃ j, j < N ∧ x = nI j
    · rw [if_neg ((holds_iff (by omega)).mpr hx)]
      rcases in_or (k := 16) (i := y) (by decide) with z | z | ⟨z1, z2⟩
      · exact absurd ⟨hx, z⟩ hn
      · rw [if_pos z]
      · rw [if_neg z1, h16, if_pos z2]
    · rw [if_pos (Classical.byContradiction fun z => hx ((holds_iff (by omega)).mp z))]
  · obtain ⟨t1, t2, t3, t4, t5, -⟩ := hI.1.2.2 j hj
    obtain ⟨e0, e1, e2, e3⟩ := hE.1 j hj
    have h3 : kF S 3 j = nI (tr 2 j) := e3.trans t4
    unfold x_tv mTold
    rw [if_neg ((holds_iff (by omega)).mpr ⟨j, hj, rfl⟩), if_neg (nI_n0 (by omega)), h16, if_neg (by rw [nI_leI (by omega) (by omega)]; omega)]
    by_cases w0 : w = 0
    · subst w0
      rw [if_pos (show nI 0 = 0 by decide), if_pos rfl, rget_at hj (by omega), e0]
    · rw [if_neg (show ¬ nI w = 0 from fun z => w0 ((nI_eq (b := 0) (by omega) (by omega)).mp z)), if_neg w0]
      by_cases w1 : w = 1
      · subst w1
        rw [if_pos (show nI 1 = 1 by decide), if_pos rfl, rget_at hj (by omega), e1]
      · rw [if_neg (show ¬ nI w = 1 from fun z => w1 ((nI_eq (b := 1) (by omega) (by omega)).mp z)), if_neg w1]
        by_cases w2 : w = 2
        · subst w2
          rw [if_pos (show nI 2 = 2 by decide), if_pos rfl, cnt_at hI hE hj, t4]
        · rw [if_neg (show ¬ nI w = 2 from fun z => w2 ((nI_eq (b := 2) (by omega) (by omega)).mp z)), if_neg w2]
          by_cases w3 : w = 3
          · subst w3
            rw [if_pos (show nI 3 = 3 by decide), if_pos rfl, rget_at hj (by omega), e2]
          · rw [if_neg (show ¬ nI w = 3 from fun z => w3 ((nI_eq (b := 3) (by omega) (by omega)).mp z)), if_neg w3]
            by_cases w9 : w < 10
            · rw [if_pos (show nI w < 10 from (nI_ltI (a := w) (b := 10) (by omega) (by omega)).mpr w9), if_pos w9, show nI w - 4 = nI (w - 4) from pk_sub (a := w) (b := 4) (by omega), part_all hj hN h3 t5 (by omega), show 6 * j + w - 4 = 6 * j + (w - 4) by omega]
              by_cases hc : w - 4 < tr 2 j
              · rw [if_pos hc]
                exact (hE.2 _ (by omega)).1
              · rw [if_neg hc]
                exact (hZ j hj (w - 4) (by omega) (by omega)).1.symm
            · rw [if_neg (show ¬ nI w < 10 from fun z => w9 ((nI_ltI (a := w) (b := 10) (by omega) (by omega)).mp z)), if_neg w9, show nI w - 10 = nI (w - 10) from pk_sub (a := w) (b := 10) (by omega), part_all hj hN h3 t5 (by omega), show 6 * j + w - 10 = 6 * j + (w - 10) by omega]
              by_cases hc : w - 10 < tr 2 j
              · rw [if_pos hc]
                exact (hE.2 _ (by omega)).2
              · rw [if_neg hc]
                exact (hZ j hj (w - 10) (by omega) (by omega)).2.symm
