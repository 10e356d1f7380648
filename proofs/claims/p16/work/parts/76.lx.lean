/-! ===== what there is stays, rows get longer at their ends: of the machine alone ===== -/
def Lx (s s' : aS) : Prop := nT s ≤ nT s' ∧ nV s ≤ nV s' ∧ (∀ x, x < nT s → srt s' x = srt s x ∧ lev s' x = lev s x ∧ one s' x = one s x ∧ two s' x = two s x ∧ parts s' x = parts s x ∧ labs s' x = labs s x) ∧ (∀ v, v < nV s → s'.1 6 v = s.1 6 v) ∧ (∀ sd, sd < 2 → ∀ x, x < nT s → ∃ l, row s' sd x = row s sd x ++ l) ∧ stp s ≤ stp s'
theorem Lx.rf {s : aS} : Lx s s := ⟨Nat.le_refl _, Nat.le_refl _, fun _ _ => ⟨rfl, rfl, rfl, rfl, rfl, rfl⟩, fun _ _ => rfl, fun _ _ _ _ => ⟨[], (List.append_nil _).symm⟩, Nat.le_refl _⟩
theorem Lx.tr {s s1 s2 : aS} (h : Lx s s1) (h' : Lx s1 s2) : Lx s s2 := by
  obtain ⟨a1, a2, a3, a4, a5, a6⟩ := h
  obtain ⟨b1, b2, b3, b4, b5, b6⟩ := h'
  refine ⟨by omega, by omega, fun x hx => ?_, fun v hv => (b4 v (by omega)).trans (a4 v hv), fun sd hsd x hx => ?_, by omega⟩
  · obtain ⟨p1, p2, p3, p4, p5, p6⟩ := a3 x hx
    obtain ⟨q1, q2, q3, q4, q5, q6⟩ := b3 x (by omega)
    exact ⟨q1.trans p1, q2.trans p2, q3.trans p3, q4.trans p4, q5.trans p5, q6.trans p6⟩
  · obtain ⟨l1, h1⟩ := a5 sd hsd x hx
    obtain ⟨l2, h2⟩ := b5 sd hsd x (by omega)
    exact ⟨l1 ++ l2, by rw [h2, h1, List.append_assoc]⟩
/-- numbers that are not types' or variables' -/
theorem Lx.w1 (s : aS) (f i v : Nat) (h : f = 0 ∧ 3 ≤ i ∨ 7 ≤ f) : Lx s (w1 s f i v) := by
  have g0 : ∀ j, j < 3 → (Jvm.Pilot.CPolarTypesLaw_law_r6553_c8ebd1.w1 s f i v).1 0 j = s.1 0 j := fun j hj => by
    show mst s.1 f i v 0 j = s.1 0 j
    unfold mst
    rcases h with h | h
    · split
      · rw [if_neg (by omega)]
      · rfl
    · rw [if_neg (by omega)]
  have gk : ∀ g, 1 ≤ g → g < 7 → ∀ j, (Jvm.Pilot.CPolarTypesLaw_law_r6553_c8ebd1.w1 s f i v).1 g j = s.1 g j := fun g h1 h2 j => by
    show mst s.1 f i v g j = s.1 g j
    unfold mst
    rw [if_neg (by omega)]
  exact ⟨Nat.le_of_eq (g0 0 (by omega)).symm, Nat.le_of_eq (g0 1 (by omega)).symm, fun x _ => ⟨gk 1 (by omega) (by omega) x, gk 2 (by omega) (by omega) x, gk 3 (by omega) (by omega) x, gk 4 (by omega) (by omega) x, rfl, rfl⟩, fun v _ => gk 6 (by omega) (by omega) v, fun _ _ _ _ => ⟨[], (List.append_nil _).symm⟩, Nat.le_of_eq (g0 2 (by omega)).symm⟩
theorem x_step (s : aS) : Lx s (w1 s 0 2 (stp s + 1)) := ⟨Nat.le_refl _, Nat.le_refl _, fun _ _ => ⟨rfl, rfl, rfl, rfl, rfl, rfl⟩, fun _ _ => rfl, fun _ _ _ _ => ⟨[], (List.append_nil _).symm⟩, Nat.le_succ _⟩
theorem x_asked (s : aS) (a b : Nat) : Lx s (asked s a b) := ⟨Nat.le_refl _, Nat.le_refl _, fun _ _ => ⟨rfl, rfl, rfl, rfl, rfl, rfl⟩, fun _ _ => rfl, fun _ _ _ _ => ⟨[], (List.append_nil _).symm⟩, Nat.le_refl _⟩
theorem x_time (s : aS) : Lx s (newTime s) := ⟨Nat.le_refl _, Nat.le_refl _, fun _ _ => ⟨rfl, rfl, rfl, rfl, rfl, rfl⟩, fun _ _ => rfl, fun _ _ _ _ => ⟨[], (List.append_nil _).symm⟩, Nat.le_refl _⟩
theorem x_stops (s : aS) (a b : Nat) : Lx s (stops s a b) := by
  unfold stops
  split
  · exact (Lx.w1 s 0 3 a (by omega)).tr (Lx.w1 _ 0 4 _ (by omega))
  · exact Lx.rf
theorem x_newV (s : aS) (l : Nat) : Lx s (newV s l) := by
  refine ⟨Nat.le_succ _, Nat.le_succ _, fun x hx => ?_, fun v hv => ?_, fun sd hsd x hx => ⟨[], ?_⟩, Nat.le_refl _⟩
  · refine ⟨?_, ?_, ?_, rfl, rfl, rfl⟩
    · show (if x = nT s then 3 else srt s x) = _
      rw [if_neg (by omega)]
    · show (if x = nT s then l else lev s x) = _
      rw [if_neg (by omega)]
    · show (if x = nT s then nV s else one s x) = _
      rw [if_neg (by omega)]
  · show (if v = nV s then nT s else s.1 6 v) = _
    rw [if_neg (by omega)]
  · rw [List.append_nil]
    rcases (by omega : sd = 0 ∨ sd = 1) with rfl | rfl
    · show (if x = nT s then [] else row s 0 x) = _
      rw [if_neg (by omega)]
    · show (if x = nT s then [] else row s 1 x) = _
      rw [if_neg (by omega)]
theorem x_mkV (s : aS) (l : Nat) : Lx s (mkV s l).1 := by
  unfold mkV
  split
  · exact x_stops _ _ _
  · split
    · exact x_stops _ _ _
    · exact x_newV _ _
theorem x_mkA (s : aS) (a b : Nat) : Lx s (mkA s a b).1 := by
  unfold mkA
  split
  · exact Lx.rf
  · split
    · exact x_stops _ _ _
    · refine ⟨Nat.le_succ _, Nat.le_refl _, fun x hx => ⟨?_, ?_, ?_, ?_, rfl, rfl⟩, fun _ _ => rfl, fun _ _ _ _ => ⟨[], (List.append_nil _).symm⟩, Nat.le_refl _⟩
      · show (if x = nT s then 1 else srt s x) = _
        rw [if_neg (by omega)]
      · show (if x = nT s then _ else lev s x) = _
        rw [if_neg (by omega)]
      · show (if x = nT s then a else one s x) = _
        rw [if_neg (by omega)]
      · show (if x = nT s then b else two s x) = _
        rw [if_neg (by omega)]
theorem x_mkR (s : aS) (ls ps : List Nat) : Lx s (mkR s ls ps).1 := by
  unfold mkR
  split
  · exact Lx.rf
  · split
    · exact x_stops _ _ _
    · refine ⟨Nat.le_succ _, Nat.le_refl _, fun x hx => ⟨?_, ?_, rfl, rfl, ?_, ?_⟩, fun _ _ => rfl, fun sd hsd x hx => ⟨[], ?_⟩, Nat.le_refl _⟩
      · show (if x = nT s then 2 else srt s x) = _
        rw [if_neg (by omega)]
      · show (if x = nT s then _ else lev s x) = _
        rw [if_neg (by omega)]
      · show (if x = nT s then ps else parts s x) = _
        rw [if_neg (by omega)]
      · show (if x = nT s then ls else labs s x) = _
        rw [if_neg (by omega)]
      · rw [List.append_nil]
        rcases (by omega : sd = 0 ∨ sd = 1) with rfl | rfl
        · rfl
        · rfl
theorem x_bind (s : aS) (v side t : Nat) (hs : side < 2) : Lx s (bind s v side t) := by
  refine ⟨Nat.le_refl _, Nat.le_refl _, fun x hx => ⟨rfl, rfl, rfl, rfl, ?_, ?_⟩, fun _ _ => rfl, fun sd hsd x hx => ?_, Nat.le_refl _⟩
  · show (if 2 = side then _ else parts s x) = _
    rw [if_neg (by omega)]
  · show (if 3 = side then _ else labs s x) = _
    rw [if_neg (by omega)]
  · rw [bind_row]
    by_cases e1 : sd = side
    · by_cases e2 : x = v
      · rw [if_pos e1, if_pos e2, e1, e2]
        exact ⟨[t], rfl⟩
      · rw [if_pos e1, if_neg e2]
        exact ⟨[], (List.append_nil _).symm⟩
    · rw [if_neg e1]
      exact ⟨[], (List.append_nil _).symm⟩
theorem x_link (s : aS) (t way n : Nat) : Lx s (link s t way n) := by
  unfold link
  split
  · exact x_bind _ _ _ _ (by omega)
  · split
    · exact x_bind _ _ _ _ (by omega)
    · exact Lx.rf
theorem x_cpL {f : aS → Nat → aS × Nat} (hf : ∀ s x, Lx s (f s x).1) : ∀ xs s, Lx s (cpL f s xs).1
  | [], s => Lx.rf
  | x :: xs, s => by
    unfold cpL
    split
    · exact Lx.rf
    · exact (hf s x).tr (x_cpL hf xs _)
theorem x_cpR {f : aS → Nat → aS × Nat} (hf : ∀ s x, Lx s (f s x).1) (n side : Nat) (hs : side < 2) : ∀ xs s, Lx s (cpR f n side s xs)
  | [], s => Lx.rf
  | x :: xs, s => by
    unfold cpR
    split
    · exact Lx.rf
    · refine (hf s x).tr (Lx.tr ?_ (x_cpR hf n side hs xs _))
      split
      · exact x_bind _ _ _ _ hs
      · exact Lx.rf
theorem x_cp (k : Nat) : ∀ s t way ab lv, Lx s (cp k s t way ab lv).1 := by
  induction k with
  | zero =>
    intro s t way ab lv
    exact x_stops _ _ _
  | succ k ih =>
    intro s t way ab lv
    unfold cp
    split
    · exact Lx.rf
    split
    · exact Lx.rf
    split
    · exact ((ih s _ _ _ _).tr (ih _ _ _ _ _)).tr (x_mkA _ _ _)
    split
    · exact (x_cpL (fun s x => ih s x way ab lv) _ _).tr (x_mkR _ _ _)
    split
    · exact Lx.rf
    split
    · exact x_mkV _ _
    · have h1 : Lx s (link (w1 (mkV s lv).1 7 (mkey s t way) ((mkV s lv).2 + 1)) t way (mkV s lv).2) :=
        ((x_mkV s lv).tr (Lx.w1 _ 7 _ _ (by omega))).tr (x_link _ _ _ _)
      have h2 : ∀ a : aS, Lx a (if way = 1 then a else cpR (fun s x => cp k s x way ab lv) (mkV s lv).2 0 a (row a 0 t)) := fun a => by
        split
        · exact Lx.rf
        · exact x_cpR (fun s x => ih s x way ab lv) _ _ (by omega) _ _
      have h3 : ∀ a : aS, Lx a (if way = 0 then a else cpR (fun s x => cp k s x way ab lv) (mkV s lv).2 1 a (row a 1 t)) := fun a => by
        split
        · exact Lx.rf
        · exact x_cpR (fun s x => ih s x way ab lv) _ _ (by omega) _ _
      exact (h1.tr (h2 _)).tr (h3 _)
theorem x_start (s : aS) (t way ab lv : Nat) : Lx s (startCp s t way ab lv).1 := (x_time s).tr (x_cp 60 (newTime s) t way ab lv)
theorem x_unR {f : aS → Nat → Nat → aS} (hf : ∀ s a b, Lx s (f s a b)) (a : Nat) : ∀ ls ps s, Lx s (unR f a s ls ps)
  | [], ps, s => by
    unfold unR
    exact Lx.rf
  | l :: ls, [], s => by
    unfold unR
    exact Lx.rf
  | l :: ls, p :: ps, s => by
    unfold unR
    split
    · exact Lx.rf
    · split
      · exact (x_stops _ _ _).tr (x_unR hf a ls ps _)
      · exact (hf _ _ _).tr (x_unR hf a ls ps _)
theorem x_fold {f : aS → Nat → aS} (hf : ∀ s a, Lx s (f s a)) : ∀ (xs : List Nat) s, Lx s (xs.foldl f s)
  | [], s => Lx.rf
  | x :: xs, s => (hf s x).tr (x_fold hf xs _)
theorem x_asks {f : aS → Nat → Nat → aS} (hf : ∀ s a b, Lx s (f s a b)) (s : aS) (a b : Nat) : Lx s (asks f s a b) := by
  unfold asks
  split
  · exact Lx.rf
  split
  · exact (hf _ _ _).tr (hf _ _ _)
  split
  · exact x_unR hf _ _ _ _
  split
  · exact (x_bind _ _ _ _ (by omega)).tr (x_fold (fun s x => hf s x b) _ _)
  split
  · exact (x_bind _ _ _ _ (by omega)).tr (x_fold (fun s x => hf s a x) _ _)
  split
  · exact (x_start _ _ _ _ _).tr (hf _ _ _)
  split
  · exact (x_start _ _ _ _ _).tr (hf _ _ _)
  · exact x_stops _ _ _
theorem x_un (k : Nat) : ∀ s a b, Lx s (un k s a b) := by
  induction k with
  | zero =>
    intro s a b
    unfold un
    split
    · exact Lx.rf
    split
    · exact x_stops _ _ _
    · exact (x_step s).tr (x_stops _ _ _)
  | succ k ih =>
    intro s a b
    unfold un
    split
    · exact Lx.rf
    split
    · exact x_stops _ _ _
    split
    · exact x_step s
    · exact ((x_step s).tr (x_asked _ _ _)).tr (x_asks ih _ _ _)
theorem x_fresh (s : aS) (n l : Nat) : Lx s (fresh s n l).1 := by
  unfold fresh
  split
  · exact Lx.w1 _ _ _ _ (by omega)
  · exact (Lx.w1 _ 0 5 _ (by omega)).tr (x_mkV _ _)
theorem x_puts (s : aS) (n a b : Nat) : Lx s (puts s n a b) := by
  unfold puts
  split
  · exact Lx.w1 _ _ _ _ (by omega)
  · exact (Lx.w1 _ 0 5 _ (by omega)).tr (x_un _ _ _ _)
theorem x_gives (s : aS) (n t sc : Nat) : Lx s (gives s n t sc) := (Lx.w1 _ 8 _ _ (by omega)).tr (Lx.w1 _ 9 _ _ (by omega))
theorem x_tyName (tr : aM) (top : Nat) (s : aS) (n l : Nat) : Lx s (tyName tr top s n l).1 := by
  unfold tyName
  split
  · exact (Lx.w1 _ 0 5 _ (by omega)).tr (x_stops _ _ _)
  · split
    · exact Lx.w1 _ 0 5 _ (by omega)
    · exact (Lx.w1 _ 0 5 _ (by omega)).tr (x_start _ _ _ _ _)
theorem x_tys {f : aS → Nat → aS × Nat} (hf : ∀ s x, Lx s (f s x).1) : ∀ xs s, Lx s (tys f s xs).1
  | [], s => Lx.rf
  | x :: xs, s => by
    unfold tys
    split
    · exact Lx.rf
    · exact (hf s x).tr (x_tys hf xs _)
theorem x_ty (tr : aM) (top : Nat) (k : Nat) : ∀ s n l, Lx s (ty tr top k s n l).1 := by
  induction k with
  | zero =>
    intro s n l
    exact x_stops _ _ _
  | succ k ih =>
    intro s n l
    have wk : ∀ (s : aS) (n : Nat), Lx s (w1 s 0 5 n) := fun s n => Lx.w1 s 0 5 n (by omega)
    unfold ty
    split
    · exact Lx.rf
    split
    · exact Lx.rf
    · exact Lx.rf
    · exact x_tyName _ _ _ _ _
    · exact ((((x_fresh _ _ _).tr (x_gives _ _ _ _)).tr (ih _ _ _)).tr (wk _ _)).tr (x_mkA _ _ _)
    · exact ((((ih s _ _).tr (ih _ _ _)).tr (x_fresh _ _ _)).tr (x_mkA _ _ _)).tr (x_puts _ _ _ _)
    · have h := x_tys (fun s x => ih s x l) ((List.range (tr 2 n)).map (fun i => tr (10 + i) n)) s
      show Lx s (if sto (tys (fun s x => ty tr top k s x l) s ((List.range (tr 2 n)).map (fun i => tr (10 + i) n))).1 ≠ 0 then _ else _ : aS × Nat).1
      split
      · exact h
      · exact (h.tr (wk _ _)).tr (x_mkR _ _ _)
    · exact (((ih s _ _).tr (x_fresh _ _ _)).tr (x_mkR _ _ _)).tr (x_puts _ _ _ _)
    · exact ((ih s _ _).tr (x_gives _ _ _ _)).tr (ih _ _ _)
    · exact (((((x_fresh _ _ _).tr (x_gives _ _ _ _)).tr (ih _ _ _)).tr (x_puts _ _ _ _)).tr (Lx.w1 _ 9 _ _ (by omega))).tr (ih _ _ _)
    · exact ((((((ih s _ _).tr (x_puts _ _ _ _)).tr (x_fresh _ _ _)).tr (ih _ _ _)).tr (x_puts _ _ _ _)).tr (ih _ _ _)).tr (x_puts _ _ _ _)
    · exact (((ih s _ _).tr (x_puts _ _ _ _)).tr (ih _ _ _)).tr (x_puts _ _ _ _)
/-! behind a stop all stays as it is -/
theorem cp_stop {k : Nat} {s : aS} {t way ab lv : Nat} (h : sto s ≠ 0) : cp k s t way ab lv = (s, 0) := by
  cases k with
  | zero =>
    show (stops s 1 (askn s), 0) = _
    rw [stops_no h]
  | succ k =>
    unfold cp
    rw [if_pos h]
theorem un_st {k : Nat} {s : aS} {a b : Nat} (h : sto s ≠ 0) : un k s a b = s := by
  cases k with
  | zero =>
    unfold un
    rw [if_pos h]
  | succ k =>
    unfold un
    rw [if_pos h]
theorem cpR_stop {f : aS → Nat → aS × Nat} {n side : Nat} {s : aS} (h : sto s ≠ 0) : ∀ xs, cpR f n side s xs = s
  | [] => rfl
  | x :: xs => by
    unfold cpR
    rw [if_pos h]
theorem fold_stop {f : aS → Nat → aS} (hf : ∀ s a, sto s ≠ 0 → f s a = s) {s : aS} (h : sto s ≠ 0) : ∀ xs : List Nat, xs.foldl f s = s
  | [] => rfl
  | x :: xs => by
    show List.foldl f (f s x) xs = s
    rw [hf s x h]
    exact fold_stop hf h xs
theorem unR_stop {f : aS → Nat → Nat → aS} {a : Nat} {s : aS} (h : sto s ≠ 0) : ∀ ls ps, unR f a s ls ps = s
  | [], ps => by unfold unR; rfl
  | l :: ls, [] => by unfold unR; rfl
  | l :: ls, q :: ps => by
    unfold unR
    rw [if_pos h]
