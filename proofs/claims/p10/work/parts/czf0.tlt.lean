/-! ===== a TYPE told: the list of its signs ===== -/
def tlf (g : Nat → List Int32 → List Int32) (ls ps : List Nat) : Nat → Nat → List Int32 → List Int32
  | 0, _, L => L
  | m + 1, i, L => tlf g ls ps m (i + 1) (g (ps.getD i 0) (lput 400 L (b8 (nI (97 + ls.getD i 0)))))
def tlb (g : Nat → List Int32 → List Int32) (ps : List Nat) : Nat → Nat → List Int32 → List Int32
  | 0, _, L => L
  | m + 1, i, L => tlb g ps m (i + 1) (g (ps.getD i 0) L)
def tln (v : Nat) (L : List Int32) : List Int32 := lputs 400 (lput 400 L (b8 39)) (figs (nI v))
def wor (w : Nat → Bool) (a : Nat) : Nat → Bool := fun k => decide (k = a) || w k
def tl (z : aS) : Nat → (Nat → Bool) → Nat → Nat → List Int32 → List Int32
  | 0, _, _, _, L => L
  | k + 1, w, t, y, L => if L.length < 400 then (if srt z t = 0 then lput 400 L (b8 (if t = 0 then 119 else 116)) else if srt z t = 1 then tl z k w (two z t) y (tl z k w (one z t) (1 - y) (lput 400 L (b8 62))) else if srt z t = 2 then lput 400 (tlf (fun p L => tl z k w p y L) (labs z t) (parts z t) (parts z t).length 0 (lput 400 L (b8 123))) (b8 125) else if (row z y t).length = 0 ∨ w (2 * one z t + y) = true then tln (one z t) L else lput 400 (tlb (fun p L => tl z k (wor w (2 * one z t + y)) p y L) (row z y t) (row z y t).length 0 (tln (one z t) (lput 400 L (b8 (if y = 0 then 124 else 38))))) (b8 46)) else L
section TL
variable {z : aS}
theorem tl_full {k t y : Nat} {w : Nat → Bool} {L : List Int32} (h : ¬ L.length < 400) : tl z k w t y L = L := by
  cases k with
  | zero => rfl
  | succ k => exact if_neg h
theorem tlf_full {g : Nat → List Int32 → List Int32} {ls ps : List Nat} (hg : ∀ p L, ¬ L.length < 400 → g p L = L) : ∀ m i (L : List Int32), ¬ L.length < 400 → tlf g ls ps m i L = L
  | 0, _, L, _ => rfl
  | m + 1, i, L, h => by
    show tlf g ls ps m (i + 1) (g (ps.getD i 0) (lput 400 L (b8 (nI (97 + ls.getD i 0))))) = L
    rw [lput_full h, hg _ _ h]
    exact tlf_full hg m (i + 1) L h
theorem tlb_full {g : Nat → List Int32 → List Int32} {ps : List Nat} (hg : ∀ p L, ¬ L.length < 400 → g p L = L) : ∀ m i (L : List Int32), ¬ L.length < 400 → tlb g ps m i L = L
  | 0, _, L, _ => rfl
  | m + 1, i, L, h => by
    show tlb g ps m (i + 1) (g (ps.getD i 0) L) = L
    rw [hg _ _ h]
    exact tlb_full hg m (i + 1) L h
theorem tln_full {v : Nat} {L : List Int32} (h : ¬ L.length < 400) : tln v L = L := by
  unfold tln
  rw [lput_full h]
  exact lputs_full _ _ h
theorem tln_len {v : Nat} {L : List Int32} (h : L.length ≤ 400) : (tln v L).length ≤ 400 ∧ L.length ≤ (tln v L).length := by
  obtain ⟨a, b⟩ := lput_len (b := b8 39) h
  obtain ⟨c, d⟩ := lputs_len (figs (nI v)) _ a
  exact ⟨c, Nat.le_trans b d⟩
theorem tlf_len {g : Nat → List Int32 → List Int32} {ls ps : List Nat} (hg : ∀ p L, L.length ≤ 400 → (g p L).length ≤ 400 ∧ L.length ≤ (g p L).length) : ∀ m i (L : List Int32), L.length ≤ 400 → (tlf g ls ps m i L).length ≤ 400 ∧ L.length ≤ (tlf g ls ps m i L).length
  | 0, _, L, h => ⟨h, Nat.le_refl _⟩
  | m + 1, i, L, h => by
    obtain ⟨a, b⟩ := lput_len (b := b8 (nI (97 + ls.getD i 0))) h
    obtain ⟨c, d⟩ := hg (ps.getD i 0) _ a
    obtain ⟨e, f⟩ := tlf_len hg m (i + 1) _ c
    exact ⟨e, Nat.le_trans b (Nat.le_trans d f)⟩
theorem tlb_len {g : Nat → List Int32 → List Int32} {ps : List Nat} (hg : ∀ p L, L.length ≤ 400 → (g p L).length ≤ 400 ∧ L.length ≤ (g p L).length) : ∀ m i (L : List Int32), L.length ≤ 400 → (tlb g ps m i L).length ≤ 400 ∧ L.length ≤ (tlb g ps m i L).length
  | 0, _, L, h => ⟨h, Nat.le_refl _⟩
  | m + 1, i, L, h => by
    obtain ⟨c, d⟩ := hg (ps.getD i 0) _ h
    obtain ⟨e, f⟩ := tlb_len hg m (i + 1) _ c
    exact ⟨e, Nat.le_trans d f⟩
theorem lp_len {L : List Int32} {b : Int32} (h : L.length ≤ 400) : (lput 400 L b).length ≤ 400 ∧ L.length ≤ (lput 400 L b).length := lput_len h
theorem tl_len : ∀ (k : Nat) (w : Nat → Bool) (t y : Nat) (L : List Int32), L.length ≤ 400 → (tl z k w t y L).length ≤ 400 ∧ L.length ≤ (tl z k w t y L).length
  | 0, _, _, _, L, h => ⟨h, Nat.le_refl _⟩
  | k + 1, w, t, y, L, h => by
    by_cases hf : L.length < 400
    · by_cases h0 : srt z t = 0
      · rw [show tl z (k + 1) w t y L = lput 400 L (b8 (if t = 0 then 119 else 116)) from (if_pos hf).trans (if_pos h0)]
        exact lp_len h
      · by_cases h1 : srt z t = 1
        · rw [show tl z (k + 1) w t y L = tl z k w (two z t) y (tl z k w (one z t) (1 - y) (lput 400 L (b8 62))) from (if_pos hf).trans ((if_neg h0).trans (if_pos h1))]
          obtain ⟨a, b⟩ := lp_len (b := b8 62) h
          obtain ⟨c, d⟩ := tl_len k w (one z t) (1 - y) _ a
          obtain ⟨e, f⟩ := tl_len k w (two z t) y _ c
          exact ⟨e, Nat.le_trans b (Nat.le_trans d f)⟩
        · by_cases h2 : srt z t = 2
          · rw [show tl z (k + 1) w t y L = lput 400 (tlf (fun p L => tl z k w p y L) (labs z t) (parts z t) (parts z t).length 0 (lput 400 L (b8 123))) (b8 125) from (if_pos hf).trans ((if_neg h0).trans ((if_neg h1).trans (if_pos h2)))]
            obtain ⟨a, b⟩ := lp_len (b := b8 123) h
            obtain ⟨c, d⟩ := tlf_len (g := fun p L => tl z k w p y L) (ls := labs z t) (ps := parts z t) (fun p L hL => tl_len k w p y L hL) (parts z t).length 0 _ a
            obtain ⟨e, f⟩ := lp_len (b := b8 125) c
            exact ⟨e, Nat.le_trans b (Nat.le_trans d f)⟩
          · by_cases h3 : (row z y t).length = 0 ∨ w (2 * one z t + y) = true
            · rw [show tl z (k + 1) w t y L = tln (one z t) L from (if_pos hf).trans ((if_neg h0).trans ((if_neg h1).trans ((if_neg h2).trans (if_pos h3))))]
              exact tln_len h
            · rw [show tl z (k + 1) w t y L = lput 400 (tlb (fun p L => tl z k (wor w (2 * one z t + y)) p y L) (row z y t) (row z y t).length 0 (tln (one z t) (lput 400 L (b8 (if y = 0 then 124 else 38))))) (b8 46) from (if_pos hf).trans ((if_neg h0).trans ((if_neg h1).trans ((if_neg h2).trans (if_neg h3))))]
              obtain ⟨a, b⟩ := lp_len (b := b8 (if y = 0 then 124 else 38)) h
              obtain ⟨a', b'⟩ := tln_len (v := one z t) a
              obtain ⟨c, d⟩ := tlb_len (g := fun p L => tl z k (wor w (2 * one z t + y)) p y L) (ps := row z y t) (fun p L hL => tl_len k _ p y L hL) (row z y t).length 0 _ a'
              obtain ⟨e, f⟩ := lp_len (b := b8 46) c
              exact ⟨e, Nat.le_trans b (Nat.le_trans b' (Nat.le_trans d f))⟩
    · rw [tl_full hf]
      exact ⟨h, Nat.le_refl _⟩
theorem tlf_cg {g g' : Nat → List Int32 → List Int32} {ls ps : List Nat} {c : Nat} (hg : ∀ p L, L.length ≤ 400 → c ≤ L.length → g p L = g' p L) (hl : ∀ p L, L.length ≤ 400 → (g p L).length ≤ 400 ∧ L.length ≤ (g p L).length) : ∀ m i (L : List Int32), L.length ≤ 400 → c ≤ L.length → tlf g ls ps m i L = tlf g' ls ps m i L
  | 0, _, L, _, _ => rfl
  | m + 1, i, L, h, hc => by
    obtain ⟨a, b⟩ := lp_len (b := b8 (nI (97 + ls.getD i 0))) h
    obtain ⟨e, f⟩ := hl (ps.getD i 0) _ a
    show tlf g ls ps m (i + 1) (g (ps.getD i 0) (lput 400 L (b8 (nI (97 + ls.getD i 0))))) = tlf g' ls ps m (i + 1) (g' (ps.getD i 0) (lput 400 L (b8 (nI (97 + ls.getD i 0)))))
    rw [← hg (ps.getD i 0) _ a (Nat.le_trans hc b)]
    exact tlf_cg hg hl m (i + 1) _ e (Nat.le_trans hc (Nat.le_trans b f))
theorem tlb_cg {g g' : Nat → List Int32 → List Int32} {ps : List Nat} {c : Nat} (hg : ∀ p L, L.length ≤ 400 → c ≤ L.length → g p L = g' p L) (hl : ∀ p L, L.length ≤ 400 → (g p L).length ≤ 400 ∧ L.length ≤ (g p L).length) : ∀ m i (L : List Int32), L.length ≤ 400 → c ≤ L.length → tlb g ps m i L = tlb g' ps m i L
  | 0, _, L, _, _ => rfl
  | m + 1, i, L, h, hc => by
    obtain ⟨e, f⟩ := hl (ps.getD i 0) _ h
    show tlb g ps m (i + 1) (g (ps.getD i 0) L) = tlb g' ps m (i + 1) (g' (ps.getD i 0) L)
    rw [← hg (ps.getD i 0) _ h hc]
    exact tlb_cg hg hl m (i + 1) _ e (Nat.le_trans hc f)
/-- fuel enough is fuel enough -/
theorem tl_fuel : ∀ (k k' : Nat) (w : Nat → Bool) (t y : Nat) (L : List Int32), L.length ≤ 400 → 401 ≤ k + L.length → 401 ≤ k' + L.length → tl z k w t y L = tl z k' w t y L
  | 0, _, _, _, _, L, h, hk, _ => by omega
  | k + 1, 0, _, _, _, L, h, _, hk => by omega
  | k + 1, k' + 1, w, t, y, L, h, hk, hk' => by
    by_cases hf : L.length < 400
    · have a1 : ∀ b : Int32, (lput 400 L b).length = L.length + 1 := fun b => by rw [lput_lt hf, List.length_append]; rfl
      have ih : ∀ w p y' L', L'.length ≤ 400 → L.length + 1 ≤ L'.length → tl z k w p y' L' = tl z k' w p y' L' := fun w p y' L' h1 h2 => tl_fuel k k' w p y' L' h1 (by omega) (by omega)
      have e : ∀ q, tl z (q + 1) w t y L = (if srt z t = 0 then lput 400 L (b8 (if t = 0 then 119 else 116)) else if srt z t = 1 then tl z q w (two z t) y (tl z q w (one z t) (1 - y) (lput 400 L (b8 62))) else if srt z t = 2 then lput 400 (tlf (fun p L => tl z q w p y L) (labs z t) (parts z t) (parts z t).length 0 (lput 400 L (b8 123))) (b8 125) else if (row z y t).length = 0 ∨ w (2 * one z t + y) = true then tln (one z t) L else lput 400 (tlb (fun p L => tl z q (wor w (2 * one z t + y)) p y L) (row z y t) (row z y t).length 0 (tln (one z t) (lput 400 L (b8 (if y = 0 then 124 else 38))))) (b8 46)) := fun q => if_pos hf
      rw [e k, e k']
      have l1 := lp_len (b := b8 62) h
      have l2 := lp_len (b := b8 123) h
      have l3 := lp_len (b := b8 (if y = 0 then 124 else 38)) h
      have l4 := tln_len (v := one z t) l3.1
      have m1 := tl_len (z := z) k w (one z t) (1 - y) _ l1.1
      rw [ih w (one z t) (1 - y) (lput 400 L (b8 62)) l1.1 (Nat.le_of_eq (a1 _).symm)] at m1 ⊢
      rw [ih w (two z t) y _ m1.1 (by have := a1 (b8 62); omega)]
      rw [tlf_cg (c := L.length + 1) (g := fun p L => tl z k w p y L) (g' := fun p L => tl z k' w p y L) (fun p L' h1 h2 => ih w p y L' h1 h2) (fun p L' h1 => tl_len k w p y L' h1) (parts z t).length 0 _ l2.1 (Nat.le_of_eq (a1 _).symm)]
      rw [tlb_cg (c := L.length + 1) (g := fun p L => tl z k (wor w (2 * one z t + y)) p y L) (g' := fun p L => tl z k' (wor w (2 * one z t + y)) p y L) (fun p L' h1 h2 => ih _ p y L' h1 h2) (fun p L' h1 => tl_len k _ p y L' h1) (row z y t).length 0 _ l4.1 (by have := a1 (b8 (if y = 0 then 124 else 38)); omega)]
    · rw [tl_full hf, tl_full hf]
end TL
