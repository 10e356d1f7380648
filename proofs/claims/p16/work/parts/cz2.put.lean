/-! ===== a VALUE told, as a list of signs ===== -/
def wmtl (tr : aM) (n : Nat) (g : Nat → List Int32 → List Int32) (fs : List Nat) : Nat → Nat → List Int32 → List Int32
  | 0, _, L => L
  | m + 1, i, L => wmtl tr n g fs m (i + 1) (g (fs.getD i 0) (lput 200 L (b8 (nI (97 + tr (20 + i) n)))))
def wmt (tr : aM) (s : wmS) : Nat → Nat → List Int32 → List Int32
  | 0, _, L => L
  | k + 1, v, L => if L.length < 200 then (if vso s v = 0 then lputs 200 L (figs (s.2.1 v)) else if vso s v = 1 then lput 200 L (b8 (if s.2.1 v = 1 then 121 else 110)) else if vso s v = 2 then lput 200 L (b8 102) else lput 200 (wmtl tr (vno s v) (wmt tr s k) (s.2.2 v) (tr 2 (vno s v)) 0 (lput 200 L (b8 123))) (b8 125)) else L
section WT
variable {tr : aM} {s : wmS}
theorem wmt_full {k v : Nat} {L : List Int32} (h : ¬ L.length < 200) : wmt tr s k v L = L := by
  cases k with
  | zero => rfl
  | succ k => exact if_neg h
theorem wmtl_full {n : Nat} {g : Nat → List Int32 → List Int32} {fs : List Nat} (hg : ∀ v L, ¬ L.length < 200 → g v L = L) : ∀ m i (L : List Int32), ¬ L.length < 200 → wmtl tr n g fs m i L = L
  | 0, _, L, _ => rfl
  | m + 1, i, L, h => by
    show wmtl tr n g fs m (i + 1) (g (fs.getD i 0) (lput 200 L (b8 (nI (97 + tr (20 + i) n))))) = L
    rw [lput_full h, hg _ _ h]
    exact wmtl_full hg m (i + 1) L h
theorem wmtl_len {n : Nat} {g : Nat → List Int32 → List Int32} {fs : List Nat} (hg : ∀ v L, L.length ≤ 200 → (g v L).length ≤ 200) : ∀ m i (L : List Int32), L.length ≤ 200 → (wmtl tr n g fs m i L).length ≤ 200
  | 0, _, L, h => h
  | m + 1, i, L, h => wmtl_len hg m (i + 1) _ (hg _ _ (lput_len h).1)
theorem wmt_len : ∀ k v (L : List Int32), L.length ≤ 200 → (wmt tr s k v L).length ≤ 200
  | 0, _, L, h => h
  | k + 1, v, L, h => by
    unfold wmt
    by_cases h0 : L.length < 200
    · rw [if_pos h0]
      by_cases h1 : vso s v = 0
      · rw [if_pos h1]
        exact (lputs_len _ _ h).1
      · rw [if_neg h1]
        by_cases h2 : vso s v = 1
        · rw [if_pos h2]
          exact (lput_len h).1
        · rw [if_neg h2]
          by_cases h3 : vso s v = 2
          · rw [if_pos h3]
            exact (lput_len h).1
          · rw [if_neg h3]
            exact (lput_len (wmtl_len (fun v L h => wmt_len k v L h) _ _ _ (lput_len h).1)).1
    · rw [if_neg h0]
      exact h
theorem wmt_0 {k v : Nat} {L : List Int32} (h : L.length < 200) (hs : vso s v = 0) : wmt tr s (k + 1) v L = lputs 200 L (figs (s.2.1 v)) := by
  unfold wmt; rw [if_pos h, if_pos hs]
theorem wmt_1 {k v : Nat} {L : List Int32} (h : L.length < 200) (hs : vso s v = 1) : wmt tr s (k + 1) v L = lput 200 L (b8 (if s.2.1 v = 1 then 121 else 110)) := by
  unfold wmt; rw [if_pos h, if_neg (by omega), if_pos hs]
theorem wmt_2 {k v : Nat} {L : List Int32} (h : L.length < 200) (hs : vso s v = 2) : wmt tr s (k + 1) v L = lput 200 L (b8 102) := by
  unfold wmt; rw [if_pos h, if_neg (by omega), if_neg (by omega), if_pos hs]
theorem wmt_3 {k v : Nat} {L : List Int32} (h : L.length < 200) (hs : vso s v = 3) : wmt tr s (k + 1) v L = lput 200 (wmtl tr (vno s v) (wmt tr s k) (s.2.2 v) (tr 2 (vno s v)) 0 (lput 200 L (b8 123))) (b8 125) := by
  unfold wmt; rw [if_pos h, if_neg (by omega), if_neg (by omega), if_neg (by omega)]
end WT
theorem TC.lab {S : cS} {tr : aM} {mk : Nat → Int32} {N n i : Nat} (h : TC S tr mk N) (hn : n < N) (h5 : tr 0 n = 5) (hi : i < tr 2 n) : t_part (kF S 3) (kF S 5) N (nI n) (nI i) = nI (tr (20 + i) n) ∧ tr (20 + i) n < 26 := by
  obtain ⟨t0, t1, t2, t3, t4, t5, t6, t7, t8⟩ := h.2 n hn
  rw [part_at hn h.1.1 t3 t4 hi]
  exact t8 h5 i hi
