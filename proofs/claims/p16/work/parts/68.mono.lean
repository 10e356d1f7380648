/-! ===== the machine's row of bounds only grows: who comes to its end within 200000 was within it all the way ===== -/
theorem b_w1 (s : aS) (f i v : Nat) (h : f ≠ 0 ∨ i ≠ 6) : bnd (w1 s f i v) = bnd s := by
  show mst s.1 f i v 0 6 = s.1 0 6
  unfold mst
  rcases h with h | h
  · rw [if_neg (fun e => h e.symm)]
  · split
    · rw [if_neg (fun e => h e.symm)]
    · rfl
theorem b_stops (s : aS) (a b : Nat) : bnd (stops s a b) = bnd s := by
  unfold stops
  split
  · rw [b_w1 _ _ _ _ (by omega), b_w1 _ _ _ _ (by omega)]
  · rfl
theorem b_newT (s : aS) (a b : Nat) : bnd (newT s a b) = bnd s := by
  unfold newT
  rw [b_w1 _ _ _ _ (by omega), b_w1 _ _ _ _ (by omega), b_w1 _ _ _ _ (by omega)]
theorem b_w2 (s : aS) (f i : Nat) (v : List Nat) : bnd (w2 s f i v) = bnd s := rfl
theorem b_mkV (s : aS) (l : Nat) : bnd (mkV s l).1 = bnd s := by
  unfold mkV
  split
  · exact b_stops _ _ _
  · split
    · exact b_stops _ _ _
    · show bnd (newV s l) = _
      unfold newV
      rw [b_w2, b_w2, b_w1 _ _ _ _ (by omega), b_w1 _ _ _ _ (by omega), b_w1 _ _ _ _ (by omega), b_newT]
theorem b_mkA (s : aS) (a b : Nat) : bnd (mkA s a b).1 = bnd s := by
  unfold mkA
  split
  · rfl
  · split
    · exact b_stops _ _ _
    · show bnd (w1 (w1 (newT s 1 (max (lev s a) (lev s b))) 3 (nT s) a) 4 (nT s) b) = _
      rw [b_w1 _ _ _ _ (by omega), b_w1 _ _ _ _ (by omega), b_newT]
theorem b_mkR (s : aS) (ls ps : List Nat) : bnd (mkR s ls ps).1 = bnd s := by
  unfold mkR
  split
  · rfl
  · split
    · exact b_stops _ _ _
    · show bnd (w2 (w2 (newT s 2 (lmax s ps)) 2 (nT s) ps) 3 (nT s) ls) = _
      rw [b_w2, b_w2, b_newT]
theorem b_bind (s : aS) (v side t : Nat) : bnd (bind s v side t) = bnd s + 1 := by
  show mst s.1 0 6 (bnd s + 1) 0 6 = _
  unfold mst
  rw [if_pos rfl, if_pos rfl]
theorem b_link (s : aS) (t way n : Nat) : bnd s ≤ bnd (link s t way n) := by
  unfold link
  split
  · rw [b_bind]; omega
  · split
    · rw [b_bind]; omega
    · exact Nat.le_refl _
theorem b_cpL {f : aS → Nat → aS × Nat} (hf : ∀ s x, bnd s ≤ bnd (f s x).1) : ∀ xs s, bnd s ≤ bnd (cpL f s xs).1
  | [], s => Nat.le_refl _
  | x :: xs, s => by
    unfold cpL
    split
    · exact Nat.le_refl _
    · exact Nat.le_trans (hf s x) (b_cpL hf xs _)
theorem b_cpR {f : aS → Nat → aS × Nat} (hf : ∀ s x, bnd s ≤ bnd (f s x).1) (n side : Nat) : ∀ xs s, bnd s ≤ bnd (cpR f n side s xs)
  | [], s => Nat.le_refl _
  | x :: xs, s => by
    unfold cpR
    split
    · exact Nat.le_refl _
    · refine Nat.le_trans (hf s x) (Nat.le_trans ?_ (b_cpR hf n side xs _))
      split
      · rw [b_bind]; omega
      · exact Nat.le_refl _
theorem b_cp (k : Nat) : ∀ s t way ab lv, bnd s ≤ bnd (cp k s t way ab lv).1 := by
  induction k with
  | zero =>
    intro s t way ab lv
    exact Nat.le_of_eq (b_stops _ _ _).symm
  | succ k ih =>
    intro s t way ab lv
    unfold cp
    split
    · exact Nat.le_refl _
    split
    · exact Nat.le_refl _
    split
    · rw [b_mkA]
      exact Nat.le_trans (ih s _ _ _ _) (ih _ _ _ _ _)
    split
    · rw [b_mkR]
      exact b_cpL (fun s x => ih s x way ab lv) _ _
    split
    · exact Nat.le_refl _
    split
    · exact Nat.le_of_eq (b_mkV _ _).symm
    · have h1 : bnd s ≤ bnd (link (w1 (mkV s lv).1 7 (mkey s t way) ((mkV s lv).2 + 1)) t way (mkV s lv).2) := by
        refine Nat.le_trans ?_ (b_link _ _ _ _)
        rw [b_w1 _ _ _ _ (by omega), b_mkV]
        exact Nat.le_refl _
      have h2 : ∀ a : aS, bnd a ≤ bnd (if way = 1 then a else cpR (fun s x => cp k s x way ab lv) (mkV s lv).2 0 a (row a 0 t)) := fun a => by
        split
        · exact Nat.le_refl _
        · exact b_cpR (fun s x => ih s x way ab lv) _ _ _ _
      have h3 : ∀ a : aS, bnd a ≤ bnd (if way = 0 then a else cpR (fun s x => cp k s x way ab lv) (mkV s lv).2 1 a (row a 1 t)) := fun a => by
        split
        · exact Nat.le_refl _
        · exact b_cpR (fun s x => ih s x way ab lv) _ _ _ _
      exact Nat.le_trans h1 (Nat.le_trans (h2 _) (h3 _))
theorem b_start (s : aS) (t way ab lv : Nat) : bnd s ≤ bnd (startCp s t way ab lv).1 := b_cp 60 (newTime s) t way ab lv
theorem b_unR {f : aS → Nat → Nat → aS} (hf : ∀ s a b, bnd s ≤ bnd (f s a b)) (a : Nat) : ∀ ls ps s, bnd s ≤ bnd (unR f a s ls ps)
  | [], ps, s => by
    unfold unR
    exact Nat.le_refl _
  | l :: ls, [], s => by
    unfold unR
    exact Nat.le_refl _
  | l :: ls, p :: ps, s => by
    unfold unR
    split
    · exact Nat.le_refl _
    · split
      · exact Nat.le_trans (Nat.le_of_eq (b_stops _ _ _).symm) (b_unR hf a ls ps _)
      · exact Nat.le_trans (hf _ _ _) (b_unR hf a ls ps _)
theorem b_fold {f : aS → Nat → aS} (hf : ∀ s a, bnd s ≤ bnd (f s a)) : ∀ (xs : List Nat) s, bnd s ≤ bnd (xs.foldl f s)
  | [], s => Nat.le_refl _
  | x :: xs, s => Nat.le_trans (hf s x) (b_fold hf xs _)
theorem b_asks {f : aS → Nat → Nat → aS} (hf : ∀ s a b, bnd s ≤ bnd (f s a b)) (s : aS) (a b : Nat) : bnd s ≤ bnd (asks f s a b) := by
  unfold asks
  split
  · exact Nat.le_refl _
  split
  · exact Nat.le_trans (hf _ _ _) (hf _ _ _)
  split
  · exact b_unR hf _ _ _ _
  split
  · refine Nat.le_trans ?_ (b_fold (fun s x => hf s x b) _ _)
    rw [b_bind]; omega
  split
  · refine Nat.le_trans ?_ (b_fold (fun s x => hf s a x) _ _)
    rw [b_bind]; omega
  split
  · exact Nat.le_trans (b_start _ _ _ _ _) (hf _ _ _)
  split
  · exact Nat.le_trans (b_start _ _ _ _ _) (hf _ _ _)
  · exact Nat.le_of_eq (b_stops _ _ _).symm
theorem b_un (k : Nat) : ∀ s a b, bnd s ≤ bnd (un k s a b) := by
  induction k with
  | zero =>
    intro s a b
    unfold un
    split
    · exact Nat.le_refl _
    split
    · exact Nat.le_of_eq (b_stops _ _ _).symm
    · rw [b_stops, b_w1 _ _ _ _ (by omega)]
      exact Nat.le_refl _
  | succ k ih =>
    intro s a b
    unfold un
    split
    · exact Nat.le_refl _
    split
    · exact Nat.le_of_eq (b_stops _ _ _).symm
    split
    · rw [b_w1 _ _ _ _ (by omega)]
      exact Nat.le_refl _
    · refine Nat.le_trans ?_ (b_asks ih _ _ _)
      show bnd s ≤ bnd (w1 s 0 2 (stp s + 1))
      rw [b_w1 _ _ _ _ (by omega)]
      exact Nat.le_refl _
