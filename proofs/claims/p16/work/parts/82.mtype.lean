/-! ===== TYPING: the tree in the second program, what nodes gave, how many names ===== -/
def TRm (tr : aM) (N : Nat) (o : Nat → Int32) (F : Nat → Nat → Int32) : Prop := o 0 = nI N ∧ N ≤ 120 ∧ ∀ n, n < N → F 1 n = nI (tr 0 n) ∧ tr 0 n ≤ 11 ∧ ((tr 0 n = 2 ∨ tr 0 n = 3 ∨ tr 0 n = 6 ∨ tr 0 n = 7 ∨ tr 0 n = 8) → F 2 n = nI (tr 1 n) ∧ tr 1 n < 26) ∧ F 3 n = nI (tr 2 n) ∧ tr 2 n ≤ 6 ∧ (tr 3 n ≠ 0 → F 6 n = nI (tr 3 n - 1) ∧ tr 3 n - 1 < N) ∧ (∀ i, i < prts (tr 0 n) (tr 2 n) → F 4 (6 * n + i) = nI (tr (10 + i) n) ∧ tr (10 + i) n < N ∧ tr 3 (tr (10 + i) n) = n + 1) ∧ (tr 0 n = 5 → ∀ i, i < tr 2 n → F 5 (6 * n + i) = nI (tr (20 + i) n) ∧ tr (20 + i) n < 26) ∧ (tr 0 n = 7 → tr 11 n ≠ tr 10 n)
/-- up to the top in so many steps -/
def UpT (tr : aM) (top : Nat) : Nat → Nat → Prop
  | 0, c => c = top
  | k + 1, c => c = top ∨ (tr 3 c ≠ 0 ∧ UpT tr top k (tr 3 c - 1))
theorem UpT.up {tr : aM} {top n q k : Nat} (h : UpT tr top k n) (hp : tr 3 q = n + 1) : UpT tr top (k + 1) q := Or.inr ⟨by omega, by rw [hp]; exact h⟩
/-- how many nodes TYPING comes to -/
def cntT (tr : aM) : Nat → Nat → Nat
  | 0, _ => 1
  | k + 1, n => 1 + ((List.range (prts (tr 0 n) (tr 2 n))).map (fun i => cntT tr k (tr (10 + i) n))).sum
def GV (gs : Nat → Prop) (z : aS) (F : Nat → Nat → Int32) : Prop := sto z = 0 → ∀ q, gs q → F 43 q = nI (z.1 8 q) ∧ z.1 8 q < nT z ∧ z.1 9 q ≤ 100 ∧ F 44 q = if z.1 9 q = 0 then -9 else nI (z.1 9 q - 1)
/-- what nodes gave stays: in all but gives -/
def K89 (s s' : aS) : Prop := ∀ q, s'.1 8 q = s.1 8 q ∧ s'.1 9 q = s.1 9 q
theorem K89.rf {s : aS} : K89 s s := fun _ => ⟨rfl, rfl⟩
theorem K89.tr {s s1 s2 : aS} (h : K89 s s1) (h' : K89 s1 s2) : K89 s s2 := fun q => ⟨(h' q).1.trans (h q).1, (h' q).2.trans (h q).2⟩
theorem k_w1 (s : aS) (f i v : Nat) (h : f ≠ 8 ∧ f ≠ 9) : K89 s (w1 s f i v) := fun q => by
  constructor
  · show mst s.1 f i v 8 q = _
    unfold mst
    rw [if_neg (fun e => h.1 e.symm)]
  · show mst s.1 f i v 9 q = _
    unfold mst
    rw [if_neg (fun e => h.2 e.symm)]
theorem k_stops (s : aS) (a b : Nat) : K89 s (stops s a b) := by
  unfold stops
  split
  · exact (k_w1 s 0 3 a (by omega)).tr (k_w1 _ 0 4 _ (by omega))
  · exact K89.rf
theorem k_mkV (s : aS) (l : Nat) : K89 s (mkV s l).1 := by
  unfold mkV
  split
  · exact k_stops _ _ _
  · split
    · exact k_stops _ _ _
    · exact fun _ => ⟨rfl, rfl⟩
theorem k_mkA (s : aS) (a b : Nat) : K89 s (mkA s a b).1 := by
  unfold mkA
  split
  · exact K89.rf
  · split
    · exact k_stops _ _ _
    · exact fun _ => ⟨rfl, rfl⟩
theorem k_mkR (s : aS) (ls ps : List Nat) : K89 s (mkR s ls ps).1 := by
  unfold mkR
  split
  · exact K89.rf
  · split
    · exact k_stops _ _ _
    · exact fun _ => ⟨rfl, rfl⟩
theorem k_bind (s : aS) (v side t : Nat) : K89 s (bind s v side t) := fun _ => ⟨rfl, rfl⟩
theorem k_link (s : aS) (t way n : Nat) : K89 s (link s t way n) := by
  unfold link
  split
  · exact k_bind _ _ _ _
  · split
    · exact k_bind _ _ _ _
    · exact K89.rf
theorem k_cpL {f : aS → Nat → aS × Nat} (hf : ∀ s x, K89 s (f s x).1) : ∀ xs s, K89 s (cpL f s xs).1
  | [], s => K89.rf
  | x :: xs, s => by
    unfold cpL
    split
    · exact K89.rf
    · exact (hf s x).tr (k_cpL hf xs _)
theorem k_cpR {f : aS → Nat → aS × Nat} (hf : ∀ s x, K89 s (f s x).1) (n side : Nat) : ∀ xs s, K89 s (cpR f n side s xs)
  | [], s => K89.rf
  | x :: xs, s => by
    unfold cpR
    split
    · exact K89.rf
    · refine (hf s x).tr (K89.tr ?_ (k_cpR hf n side xs _))
      split
      · exact k_bind _ _ _ _
      · exact K89.rf
theorem k_cp (k : Nat) : ∀ s t way ab lv, K89 s (cp k s t way ab lv).1 := by
  induction k with
  | zero =>
    intro s t way ab lv
    exact k_stops _ _ _
  | succ k ih =>
    intro s t way ab lv
    unfold cp
    split
    · exact K89.rf
    split
    · exact K89.rf
    split
    · exact ((ih s _ _ _ _).tr (ih _ _ _ _ _)).tr (k_mkA _ _ _)
    split
    · exact (k_cpL (fun s x => ih s x way ab lv) _ _).tr (k_mkR _ _ _)
    split
    · exact K89.rf
    split
    · exact k_mkV _ _
    · have h1 : K89 s (link (w1 (mkV s lv).1 7 (mkey s t way) ((mkV s lv).2 + 1)) t way (mkV s lv).2) :=
        ((k_mkV s lv).tr (k_w1 _ 7 _ _ (by omega))).tr (k_link _ _ _ _)
      have h2 : ∀ a : aS, K89 a (if way = 1 then a else cpR (fun s x => cp k s x way ab lv) (mkV s lv).2 0 a (row a 0 t)) := fun a => by
        split
        · exact K89.rf
        · exact k_cpR (fun s x => ih s x way ab lv) _ _ _ _
      have h3 : ∀ a : aS, K89 a (if way = 0 then a else cpR (fun s x => cp k s x way ab lv) (mkV s lv).2 1 a (row a 1 t)) := fun a => by
        split
        · exact K89.rf
        · exact k_cpR (fun s x => ih s x way ab lv) _ _ _ _
      exact (h1.tr (h2 _)).tr (h3 _)
theorem k_start (s : aS) (t way ab lv : Nat) : K89 s (startCp s t way ab lv).1 := K89.tr (fun _ => ⟨rfl, rfl⟩) (k_cp 60 (newTime s) t way ab lv)
theorem k_unR {f : aS → Nat → Nat → aS} (hf : ∀ s a b, K89 s (f s a b)) (a : Nat) : ∀ ls ps s, K89 s (unR f a s ls ps)
  | [], ps, s => by
    unfold unR
    exact K89.rf
  | l :: ls, [], s => by
    unfold unR
    exact K89.rf
  | l :: ls, p :: ps, s => by
    unfold unR
    split
    · exact K89.rf
    · split
      · exact (k_stops _ _ _).tr (k_unR hf a ls ps _)
      · exact (hf _ _ _).tr (k_unR hf a ls ps _)
theorem k_fold {f : aS → Nat → aS} (hf : ∀ s a, K89 s (f s a)) : ∀ (xs : List Nat) s, K89 s (xs.foldl f s)
  | [], s => K89.rf
  | x :: xs, s => (hf s x).tr (k_fold hf xs _)
theorem k_asks {f : aS → Nat → Nat → aS} (hf : ∀ s a b, K89 s (f s a b)) (s : aS) (a b : Nat) : K89 s (asks f s a b) := by
  unfold asks
  split
  · exact K89.rf
  split
  · exact (hf _ _ _).tr (hf _ _ _)
  split
  · exact k_unR hf _ _ _ _
  split
  · exact (k_bind _ _ _ _).tr (k_fold (fun s x => hf s x b) _ _)
  split
  · exact (k_bind _ _ _ _).tr (k_fold (fun s x => hf s a x) _ _)
  split
  · exact (k_start _ _ _ _ _).tr (hf _ _ _)
  split
  · exact (k_start _ _ _ _ _).tr (hf _ _ _)
  · exact k_stops _ _ _
theorem k_asked (s : aS) (a b : Nat) : K89 s (asked s a b) := fun _ => ⟨rfl, rfl⟩
theorem k_un (k : Nat) : ∀ s a b, K89 s (un k s a b) := by
  induction k with
  | zero =>
    intro s a b
    unfold un
    split
    · exact K89.rf
    split
    · exact k_stops _ _ _
    · exact (k_w1 s 0 2 _ (by omega)).tr (k_stops _ _ _)
  | succ k ih =>
    intro s a b
    unfold un
    split
    · exact K89.rf
    split
    · exact k_stops _ _ _
    split
    · exact k_w1 s 0 2 _ (by omega)
    · exact ((k_w1 s 0 2 (stp s + 1) (by omega)).tr (k_asked (w1 s 0 2 (stp s + 1)) a b)).tr (k_asks ih _ _ _)
theorem k_fresh (s : aS) (n l : Nat) : K89 s (fresh s n l).1 := by
  unfold fresh
  split
  · exact k_w1 _ _ _ _ (by omega)
  · exact (k_w1 _ 0 5 _ (by omega)).tr (k_mkV _ _)
theorem k_puts (s : aS) (n a b : Nat) : K89 s (puts s n a b) := by
  unfold puts
  split
  · exact k_w1 _ _ _ _ (by omega)
  · exact (k_w1 _ 0 5 _ (by omega)).tr (k_un _ _ _ _)
theorem k_tyName (tr : aM) (top : Nat) (s : aS) (n l : Nat) : K89 s (tyName tr top s n l).1 := by
  unfold tyName
  split
  · exact (k_w1 _ 0 5 _ (by omega)).tr (k_stops _ _ _)
  · split
    · exact k_w1 _ 0 5 _ (by omega)
    · exact (k_w1 _ 0 5 _ (by omega)).tr (k_start _ _ _ _ _)
theorem GV.to {gs : Nat → Prop} {z z' : aS} {F F' : Nat → Nat → Int32} (h : GV gs z F) (hk : K89 z z') (hn : nT z ≤ nT z') (hs : sto z' = 0 → sto z = 0) (e43 : F' 43 = F 43) (e44 : F' 44 = F 44) : GV gs z' F' := fun h0 q hq => by
  obtain ⟨h1, h2, h3, h4⟩ := h (hs h0) q hq
  obtain ⟨k1, k2⟩ := hk q
  rw [e43, e44, k1, k2]
  exact ⟨h1, by omega, h3, h4⟩
/-- a node gives -/
theorem GV.gives {gs : Nat → Prop} {z : aS} {F F' : Nat → Nat → Int32} {n t sch : Nat} {x y : Int32} (h : GV gs z F) (e43 : F' 43 = upd (F 43) n x) (e44 : F' 44 = upd (F 44) n y) (hx : sto z = 0 → x = nI t ∧ t < nT z) (hy : y = if sch = 0 then -9 else nI (sch - 1)) (hs : sch ≤ 100) : GV (fun q => q = n ∨ gs q) (gives z n t sch) F' := fun h0 q hq => by
  have h0' : sto z = 0 := h0
  obtain ⟨g1, g2⟩ := gives_at z n t sch q
  rw [e43, e44, g1, g2]
  have hn : nT (Jvm.Pilot.CPolarTypesLaw_law_r6553_c8ebd1.gives z n t sch) = nT z := rfl
  rw [hn]
  by_cases e : q = n
  · rw [e, upd_s, upd_s, if_pos rfl, if_pos rfl]
    exact ⟨(hx h0').1, (hx h0').2, hs, hy⟩
  · rw [upd_n e, upd_n e, if_neg e, if_neg e]
    exact h h0' q (hq.resolve_left e)
theorem TRm.two {tr : aM} {N : Nat} {o : Nat → Int32} {F : Nat → Nat → Int32} (h : TRm tr N o F) {u : Nat} (hu : u < N) (h7 : tr 0 u = 7) : F 4 (6 * u + 1) = nI (tr 11 u) ∧ tr 11 u < N := by
  obtain ⟨-, -, -, -, -, -, k7, -⟩ := h.2.2 u hu
  rw [h7] at k7
  obtain ⟨a, b, -⟩ := k7 1 (show 1 < 2 by decide)
  exact ⟨a, b⟩
theorem bin_top {tr : aM} {top x y j : Nat} {B : Option Nat} (h : y = top) (hp : ∃ mf, binder tr top x mf y = B ∧ j < mf) : B = none := by
  obtain ⟨mf, e1, e2⟩ := hp
  cases mf with
  | zero => omega
  | succ mf =>
    rw [← e1, binder, if_pos h]
theorem bin_hit {tr : aM} {top x y j : Nat} {B : Option Nat} (h : ¬ y = top) (h3 : tr 3 y ≠ 0) (hc : tr 1 (tr 3 y - 1) = x ∧ (tr 0 (tr 3 y - 1) = 3 ∨ (tr 0 (tr 3 y - 1) = 7 ∧ tr 11 (tr 3 y - 1) = y) ∨ tr 0 (tr 3 y - 1) = 8)) (hp : ∃ mf, binder tr top x mf y = B ∧ j < mf) : B = some (tr 3 y - 1) := by
  obtain ⟨mf, e1, e2⟩ := hp
  cases mf with
  | zero => omega
  | succ mf =>
    rw [← e1, binder, if_neg h, if_neg h3, if_pos hc]
theorem bin_up {tr : aM} {top x y j : Nat} {B : Option Nat} (h : ¬ y = top) (h3 : tr 3 y ≠ 0) (hc : ¬ (tr 1 (tr 3 y - 1) = x ∧ (tr 0 (tr 3 y - 1) = 3 ∨ (tr 0 (tr 3 y - 1) = 7 ∧ tr 11 (tr 3 y - 1) = y) ∨ tr 0 (tr 3 y - 1) = 8))) (hp : ∃ mf, binder tr top x mf y = B ∧ j + 1 < mf) : ∃ mf, binder tr top x mf (tr 3 y - 1) = B ∧ j < mf := by
  obtain ⟨mf, e1, e2⟩ := hp
  cases mf with
  | zero => omega
  | succ mf =>
    rw [binder, if_neg h, if_neg h3, if_neg hc] at e1
    exact ⟨mf, e1, by omega⟩
/-- a binder's letter -/
theorem TRm.bl {tr : aM} {N : Nat} {o : Nat → Int32} {F : Nat → Nat → Int32} (h : TRm tr N o F) {u y : Nat} (hu : u < N) (hk : tr 0 u = 3 ∨ (tr 0 u = 7 ∧ tr 11 u = y) ∨ tr 0 u = 8) : F 2 u = nI (tr 1 u) ∧ tr 1 u < 26 := by
  refine (h.2.2 u hu).2.2.1 ?_
  rcases hk with h | h | h
  · exact Or.inr (Or.inl h)
  · exact Or.inr (Or.inr (Or.inr (Or.inl h.1)))
  · exact Or.inr (Or.inr (Or.inr (Or.inr h)))
