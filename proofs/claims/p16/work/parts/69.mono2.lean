theorem b_fresh (s : aS) (n l : Nat) : bnd (fresh s n l).1 = bnd s := by
  unfold fresh
  split
  · exact b_w1 _ _ _ _ (by omega)
  · rw [b_mkV]
    exact b_w1 _ _ _ _ (by omega)
theorem b_puts (s : aS) (n a b : Nat) : bnd s ≤ bnd (puts s n a b) := by
  unfold puts
  split
  · exact Nat.le_of_eq (b_w1 _ _ _ _ (by omega)).symm
  · exact Nat.le_trans (Nat.le_of_eq (b_w1 s 0 5 n (by omega)).symm) (b_un _ _ _ _)
theorem b_gives (s : aS) (n t sc : Nat) : bnd (gives s n t sc) = bnd s := by
  unfold gives
  rw [b_w1 _ _ _ _ (by omega), b_w1 _ _ _ _ (by omega)]
theorem b_tyName (tr : aM) (top : Nat) (s : aS) (n l : Nat) : bnd s ≤ bnd (tyName tr top s n l).1 := by
  unfold tyName
  split
  · show bnd s ≤ bnd (stops (w1 s 0 5 n) 2 n)
    rw [b_stops, b_w1 _ _ _ _ (by omega)]
    exact Nat.le_refl _
  · split
    · exact Nat.le_of_eq (b_w1 _ _ _ _ (by omega)).symm
    · exact Nat.le_trans (Nat.le_of_eq (b_w1 s 0 5 n (by omega)).symm) (b_start _ _ _ _ _)
theorem b_tys {f : aS → Nat → aS × Nat} (hf : ∀ s x, bnd s ≤ bnd (f s x).1) : ∀ xs s, bnd s ≤ bnd (tys f s xs).1
  | [], s => Nat.le_refl _
  | x :: xs, s => by
    unfold tys
    split
    · exact Nat.le_refl _
    · exact Nat.le_trans (hf s x) (b_tys hf xs _)
theorem b_ty (tr : aM) (top : Nat) (k : Nat) : ∀ s n l, bnd s ≤ bnd (ty tr top k s n l).1 := by
  induction k with
  | zero =>
    intro s n l
    exact Nat.le_of_eq (b_stops _ _ _).symm
  | succ k ih =>
    intro s n l
    unfold ty
    split
    · exact Nat.le_refl _
    split
    · exact Nat.le_refl _
    · exact Nat.le_refl _
    · exact b_tyName _ _ _ _ _
    · refine Nat.le_trans ?_ (Nat.le_of_eq (b_mkA _ _ _).symm)
      rw [b_w1 _ _ _ _ (by omega)]
      refine Nat.le_trans ?_ (ih _ _ _)
      rw [b_gives, b_fresh]
      exact Nat.le_refl _
    · refine Nat.le_trans ?_ (b_puts _ _ _ _)
      rw [b_mkA, b_fresh]
      exact Nat.le_trans (ih s _ _) (ih _ _ _)
    · have h := b_tys (fun s x => ih s x l) ((List.range (tr 2 n)).map (fun i => tr (10 + i) n)) s
      show bnd s ≤ bnd (if sto (tys (fun s x => ty tr top k s x l) s ((List.range (tr 2 n)).map (fun i => tr (10 + i) n))).1 ≠ 0 then _ else _ : aS × Nat).1
      split
      · exact h
      · rw [b_mkR, b_w1 _ _ _ _ (by omega)]
        exact h
    · refine Nat.le_trans ?_ (b_puts _ _ _ _)
      rw [b_mkR, b_fresh]
      exact ih s _ _
    · refine Nat.le_trans ?_ (ih _ _ _)
      rw [b_gives]
      exact ih s _ _
    · refine Nat.le_trans ?_ (ih _ _ _)
      rw [b_w1 _ _ _ _ (by omega)]
      refine Nat.le_trans ?_ (b_puts _ _ _ _)
      refine Nat.le_trans ?_ (ih _ _ _)
      rw [b_gives, b_fresh]
      exact Nat.le_refl _
    · refine Nat.le_trans ?_ (b_puts _ _ _ _)
      refine Nat.le_trans ?_ (ih _ _ _)
      refine Nat.le_trans ?_ (b_puts _ _ _ _)
      refine Nat.le_trans ?_ (ih _ _ _)
      rw [b_fresh]
      refine Nat.le_trans ?_ (b_puts _ _ _ _)
      exact ih s _ _
    · refine Nat.le_trans ?_ (b_puts _ _ _ _)
      refine Nat.le_trans ?_ (ih _ _ _)
      refine Nat.le_trans ?_ (b_puts _ _ _ _)
      exact ih s _ _
