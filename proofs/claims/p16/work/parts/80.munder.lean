/-! ===== UNDER: what a call says of the second program ===== -/
def UQ (LU : List Nat) (z : aS) (ix : Nat → Nat → Nat) (hm : Nat) (o : Nat → Int32) (F : Nat → Nat → Int32) (z' : aS) (u : mS) : Prop :=
  (∃ ix' lf', MR z' ix' u.1 u.2 ∧ Px z ix ix' ∧ M0 lf' u.2 ∧ u.1 35 = nI lf' ∧ lf' ≤ stp z') ∧ (sto z ≠ 0 → u = (o, F)) ∧ HM z' hm 60 o F u ∧ u.1 31 = o 31 ∧ u.1 32 = o 32 ∧ Kq LU o F u
theorem un_0 {z : aS} {a b : Nat} (h0 : sto z = 0) (hs : stp z ≠ 1500) : un 0 z a b = stops (w1 z 0 2 (stp z + 1)) 1 (askn z) := by
  unfold un
  rw [if_neg (not_not_intro h0), if_neg hs]
theorem un_sp {k : Nat} {z : aS} {a b : Nat} (h0 : sto z = 0) (hs : stp z = 1500) : un k z a b = stops z 1 (askn z) := by
  cases k with
  | zero =>
    unfold un
    rw [if_neg (not_not_intro h0), if_pos hs]
  | succ k =>
    unfold un
    rw [if_neg (not_not_intro h0), if_pos hs]
theorem un_as {k : Nat} {z : aS} {a b : Nat} (h0 : sto z = 0) (hs : stp z ≠ 1500) (hm : (a, b) ∈ z.2.2) : un (k + 1) z a b = w1 z 0 2 (stp z + 1) := by
  unfold un
  rw [if_neg (not_not_intro h0), if_neg hs, if_pos hm]
theorem un_go {k : Nat} {z : aS} {a b : Nat} (h0 : sto z = 0) (hs : stp z ≠ 1500) (hm : (a, b) ∉ z.2.2) : un (k + 1) z a b = asks (un k) (asked (w1 z 0 2 (stp z + 1)) a b) a b := by
  unfold un
  rw [if_neg (not_not_intro h0), if_neg hs, if_neg hm]
theorem un_sto {k : Nat} {z : aS} {a b : Nat} (h : sto (un k z a b) = 0) : sto z = 0 := by
  by_cases e : sto z = 0
  · exact e
  · rw [un_st e] at h
    exact absurd h e
theorem fold_step {g : aS → Nat → aS} {z : aS} {L : List Nat} {i : Nat} (hi : i < L.length) : (L.drop i).foldl g z = (L.drop (i + 1)).foldl g (g z (L.getD i 0)) := by
  rw [drop_cons hi]
  rfl
theorem unR_none {f : aS → Nat → Nat → aS} {a i : Nat} {z : aS} {ls ps : List Nat} (hi : i < ps.length) (hl : ls.length = ps.length) (h0 : sto z = 0) (hp : partBy (labs z a) (parts z a) (ls.getD i 0) = none) : unR f a z (ls.drop i) (ps.drop i) = unR f a (stops z 2 (askn z)) (ls.drop (i + 1)) (ps.drop (i + 1)) := by
  rw [drop_cons hi, drop_cons (show i < ls.length by omega), unR, if_neg (not_not_intro h0), hp]
theorem unR_some {f : aS → Nat → Nat → aS} {a i q : Nat} {z : aS} {ls ps : List Nat} (hi : i < ps.length) (hl : ls.length = ps.length) (h0 : sto z = 0) (hp : partBy (labs z a) (parts z a) (ls.getD i 0) = some q) : unR f a z (ls.drop i) (ps.drop i) = unR f a (f z q (ps.getD i 0)) (ls.drop (i + 1)) (ps.drop (i + 1)) := by
  rw [drop_cons hi, drop_cons (show i < ls.length by omega), unR, if_neg (not_not_intro h0), hp]
theorem unR_end {f : aS → Nat → Nat → aS} {a : Nat} {z : aS} {ls : List Nat} : unR f a z ls [] = z := by
  cases ls with
  | nil => rw [unR]; intro l ls q qs h; cases h
  | cons l ls => rw [unR]; intro l ls q qs _ h; cases h
theorem M0.to {lf : Nat} {F F' : Nat → Nat → Int32} (h : M0 lf F) (e : F' 36 = F 36) : M0 lf F' := fun i hi => by
  rw [e]
  exact h i hi
