/-! ===== where a stop is told; what copying leaves ===== -/
def Wh (s s' : aS) : Prop := askn s' = askn s ∧ ((sto s' = sto s ∧ s'.1 0 4 = s.1 0 4) ∨ (sto s = 0 ∧ sto s' ≠ 0 ∧ s'.1 0 4 = askn s + 1))
def Wc (s s' : aS) : Prop := Wh s s' ∧ stp s' = stp s
theorem Wh.rf {s : aS} : Wh s s := ⟨rfl, Or.inl ⟨rfl, rfl⟩⟩
theorem Wh.tr {s s1 s2 : aS} (h : Wh s s1) (h' : Wh s1 s2) : Wh s s2 := by
  obtain ⟨a, b⟩ := h
  obtain ⟨c, d⟩ := h'
  refine ⟨c.trans a, ?_⟩
  rcases b with ⟨b1, b2⟩ | ⟨b1, b2, b3⟩
  · rcases d with ⟨d1, d2⟩ | ⟨d1, d2, d3⟩
    · exact Or.inl ⟨d1.trans b1, d2.trans b2⟩
    · exact Or.inr ⟨b1.symm.trans d1, d2, by rw [d3, a]⟩
  · rcases d with ⟨d1, d2⟩ | ⟨d1, d2, d3⟩
    · exact Or.inr ⟨b1, by rw [d1]; exact b2, by rw [d2]; exact b3⟩
    · exact absurd d1 b2
theorem Wc.rf {s : aS} : Wc s s := ⟨Wh.rf, rfl⟩
theorem Wc.tr {s s1 s2 : aS} (h : Wc s s1) (h' : Wc s1 s2) : Wc s s2 := ⟨h.1.tr h'.1, h'.2.trans h.2⟩
theorem wc_stops (s : aS) (w : Nat) (hw : w ≠ 0) : Wc s (stops s w (askn s)) := by
  by_cases h : sto s = 0
  · rw [show stops s w (askn s) = w1 (w1 s 0 3 w) 0 4 (askn s + 1) from if_pos h]
    exact ⟨⟨rfl, Or.inr ⟨h, hw, rfl⟩⟩, rfl⟩
  · rw [stops_no h]
    exact Wc.rf
theorem wc_same {s s' : aS} (h3 : sto s' = sto s) (h4 : s'.1 0 4 = s.1 0 4) (h5 : askn s' = askn s) (h2 : stp s' = stp s) : Wc s s' := ⟨⟨h5, Or.inl ⟨h3, h4⟩⟩, h2⟩
theorem wc_mkV (s : aS) (l : Nat) : Wc s (mkV s l).1 := by
  unfold mkV
  split
  · exact wc_stops _ _ (by decide)
  · split
    · exact wc_stops _ _ (by decide)
    · exact wc_same rfl rfl rfl rfl
theorem wc_mkA (s : aS) (a b : Nat) : Wc s (mkA s a b).1 := by
  unfold mkA
  split
  · exact Wc.rf
  · split
    · exact wc_stops _ _ (by decide)
    · exact wc_same rfl rfl rfl rfl
theorem wc_mkR (s : aS) (a b : List Nat) : Wc s (mkR s a b).1 := by
  unfold mkR
  split
  · exact Wc.rf
  · split
    · exact wc_stops _ _ (by decide)
    · exact wc_same rfl rfl rfl rfl
theorem wc_bind (s : aS) (v sd t : Nat) : Wc s (bind s v sd t) := wc_same rfl rfl rfl rfl
theorem wc_link (s : aS) (t way n : Nat) : Wc s (link s t way n) := by
  unfold link
  split
  · exact wc_bind _ _ _ _
  · split
    · exact wc_bind _ _ _ _
    · exact Wc.rf
theorem wc_cpL {f : aS → Nat → aS × Nat} (hf : ∀ s x, Wc s (f s x).1) : ∀ xs s, Wc s (cpL f s xs).1
  | [], s => Wc.rf
  | x :: xs, s => by
    unfold cpL
    split
    · exact Wc.rf
    · exact (hf s x).tr (wc_cpL hf xs _)
theorem wc_cpR {f : aS → Nat → aS × Nat} (hf : ∀ s x, Wc s (f s x).1) (n side : Nat) : ∀ xs s, Wc s (cpR f n side s xs)
  | [], s => Wc.rf
  | x :: xs, s => by
    unfold cpR
    split
    · exact Wc.rf
    · refine (hf s x).tr (Wc.tr ?_ (wc_cpR hf n side xs _))
      split
      · exact wc_bind _ _ _ _
      · exact Wc.rf
theorem wc_cp (k : Nat) : ∀ s t way ab lv, Wc s (cp k s t way ab lv).1 := by
  induction k with
  | zero =>
    intro s t way ab lv
    exact wc_stops _ _ (by decide)
  | succ k ih =>
    intro s t way ab lv
    unfold cp
    split
    · exact Wc.rf
    split
    · exact Wc.rf
    split
    · exact ((ih s _ _ _ _).tr (ih _ _ _ _ _)).tr (wc_mkA _ _ _)
    split
    · exact (wc_cpL (fun s x => ih s x way ab lv) _ _).tr (wc_mkR _ _ _)
    split
    · exact Wc.rf
    split
    · exact wc_mkV _ _
    · have h1 : Wc s (link (w1 (mkV s lv).1 7 (mkey s t way) ((mkV s lv).2 + 1)) t way (mkV s lv).2) :=
        ((wc_mkV s lv).tr (wc_same rfl rfl rfl rfl)).tr (wc_link _ _ _ _)
      have h2 : ∀ a : aS, Wc a (if way = 1 then a else cpR (fun s x => cp k s x way ab lv) (mkV s lv).2 0 a (row a 0 t)) := fun a => by
        split
        · exact Wc.rf
        · exact wc_cpR (fun s x => ih s x way ab lv) _ _ _ _
      have h3 : ∀ a : aS, Wc a (if way = 0 then a else cpR (fun s x => cp k s x way ab lv) (mkV s lv).2 1 a (row a 1 t)) := fun a => by
        split
        · exact Wc.rf
        · exact wc_cpR (fun s x => ih s x way ab lv) _ _ _ _
      exact (h1.tr (h2 _)).tr (h3 _)
theorem wc_start (s : aS) (t way ab lv : Nat) : Wc s (startCp s t way ab lv).1 := (wc_same rfl rfl rfl rfl : Wc s (newTime s)).tr (wc_cp 60 (newTime s) t way ab lv)
theorem wh_unR {f : aS → Nat → Nat → aS} (hf : ∀ s a b, Wh s (f s a b)) (a : Nat) : ∀ ls ps s, Wh s (unR f a s ls ps)
  | [], ps, s => by
    unfold unR
    exact Wh.rf
  | l :: ls, [], s => by
    unfold unR
    exact Wh.rf
  | l :: ls, p :: ps, s => by
    unfold unR
    split
    · exact Wh.rf
    · split
      · exact (wc_stops _ _ (by decide)).1.tr (wh_unR hf a ls ps _)
      · exact (hf _ _ _).tr (wh_unR hf a ls ps _)
theorem wh_fold {f : aS → Nat → aS} (hf : ∀ s a, Wh s (f s a)) : ∀ (xs : List Nat) s, Wh s (xs.foldl f s)
  | [], s => Wh.rf
  | x :: xs, s => (hf s x).tr (wh_fold hf xs _)
theorem wh_asks {f : aS → Nat → Nat → aS} (hf : ∀ s a b, Wh s (f s a b)) (s : aS) (a b : Nat) : Wh s (asks f s a b) := by
  unfold asks
  split
  · exact Wh.rf
  split
  · exact (hf _ _ _).tr (hf _ _ _)
  split
  · exact wh_unR hf _ _ _ _
  split
  · exact (wc_bind _ _ _ _).1.tr (wh_fold (fun s x => hf s x b) _ _)
  split
  · exact (wc_bind _ _ _ _).1.tr (wh_fold (fun s x => hf s a x) _ _)
  split
  · exact (wc_start _ _ _ _ _).1.tr (hf _ _ _)
  split
  · exact (wc_start _ _ _ _ _).1.tr (hf _ _ _)
  · exact (wc_stops _ _ (by decide)).1
theorem wh_un (k : Nat) : ∀ s a b, Wh s (un k s a b) := by
  have h2 : ∀ (s : aS) (x : Nat), Wh s (w1 s 0 2 x) := fun s x => ⟨rfl, Or.inl ⟨rfl, rfl⟩⟩
  induction k with
  | zero =>
    intro s a b
    unfold un
    split
    · exact Wh.rf
    split
    · exact (wc_stops _ _ (by decide)).1
    · exact (h2 s _).tr (wc_stops (w1 s 0 2 (stp s + 1)) 1 (by decide)).1
  | succ k ih =>
    intro s a b
    unfold un
    split
    · exact Wh.rf
    split
    · exact (wc_stops _ _ (by decide)).1
    split
    · exact h2 s _
    · exact ((h2 s (stp s + 1)).tr (⟨rfl, Or.inl ⟨rfl, rfl⟩⟩ : Wh (w1 s 0 2 (stp s + 1)) (asked (w1 s 0 2 (stp s + 1)) a b))).tr (wh_asks ih _ _ _)
/-! the cases of asks -/
section AK
variable {f : aS → Nat → Nat → aS} {s : aS} {a b : Nat}
theorem asks_0 (h : srt s a = 0 ∧ a = b) : asks f s a b = s := if_pos h
theorem asks_1 (h1 : srt s a = 1) (h2 : srt s b = 1) : asks f s a b = f (f s (one s b) (one s a)) (two s a) (two s b) := by
  unfold asks
  rw [if_neg (by omega), if_pos ⟨h1, h2⟩]
theorem asks_2 (h1 : srt s a = 2) (h2 : srt s b = 2) : asks f s a b = unR f a s (labs s b) (parts s b) := by
  unfold asks
  rw [if_neg (by omega), if_neg (by omega), if_pos ⟨h1, h2⟩]
theorem asks_3 (h1 : srt s a = 3) (h2 : lev s b ≤ lev s a) : asks f s a b = (row s 0 a).foldl (fun s x => f s x b) (bind s a 1 b) := by
  unfold asks
  rw [if_neg (by omega), if_neg (by omega), if_neg (by omega), if_pos ⟨h1, h2⟩]
theorem asks_4 (h1 : srt s b = 3) (h2 : lev s a ≤ lev s b) (h3 : ¬ (srt s a = 3 ∧ lev s b ≤ lev s a)) : asks f s a b = (row s 1 b).foldl (fun s x => f s a x) (bind s b 0 a) := by
  unfold asks
  by_cases e : srt s a = 0 ∧ a = b
  · rw [e.2] at e
    omega
  · rw [if_neg e, if_neg (by omega), if_neg (by omega), if_neg h3, if_pos ⟨h1, h2⟩]
theorem asks_5 (h1 : srt s a = 3) (h2 : ¬ lev s b ≤ lev s a) (h3 : ¬ (srt s b = 3 ∧ lev s a ≤ lev s b)) : asks f s a b = f (startCp s b 1 (lev s a) (lev s a)).1 a (startCp s b 1 (lev s a) (lev s a)).2 := by
  unfold asks
  rw [if_neg (by omega), if_neg (by omega), if_neg (by omega), if_neg (by omega), if_neg h3, if_pos h1]
theorem asks_6 (h1 : srt s b = 3) (h2 : srt s a ≠ 3) (h3 : ¬ lev s a ≤ lev s b) : asks f s a b = f (startCp s a 0 (lev s b) (lev s b)).1 (startCp s a 0 (lev s b) (lev s b)).2 b := by
  unfold asks
  by_cases e : srt s a = 0 ∧ a = b
  · rw [e.2] at e
    omega
  · rw [if_neg e, if_neg (by omega), if_neg (by omega), if_neg (by omega), if_neg (by omega), if_neg h2, if_pos h1]
theorem asks_7 (h : ¬ (srt s a = 0 ∧ a = b) ∧ ¬ (srt s a = 1 ∧ srt s b = 1) ∧ ¬ (srt s a = 2 ∧ srt s b = 2)) (h1 : srt s a ≠ 3) (h2 : srt s b ≠ 3) : asks f s a b = stops s 2 (askn s) := by
  unfold asks
  rw [if_neg h.1, if_neg h.2.1, if_neg h.2.2, if_neg (by omega), if_neg (by omega), if_neg h1, if_neg h2]
end AK
/-! what a UNDER says of the class's rows -/
def UC (S u : cS) (Y tm : Nat) (z w : aS) (tm' : Nat) : Prop := KT u w ∧ KQ u w ∧ KM0 u tm' ∧ u.1 8 = nI tm' ∧ tm ≤ tm' ∧ tm' + stp z ≤ tm + stp w ∧ stp w ≤ 1500 ∧ ∀ j, j < Y → kF u 12 j = kF S 12 j ∧ kF u 13 j = kF S 13 j
def UM (u : cS) (w : aS) (v : Int32) : Prop := (sto w = 0 → v = 0 ∧ u.1 12 = nI (stp w)) ∧ (sto w ≠ 0 → v = sc (sto w))
def UE (S u : cS) (Y tm : Nat) (z r : aS) (v : Int32) : Prop := (∃ tm', UC S u Y tm z r tm') ∧ UM u r v
theorem UC.tr {S S1 u : cS} {Y tm t1 t2 : Nat} {z w r : aS} (h : UC S S1 Y tm z w t1) (h' : UC S1 u Y t1 w r t2) : UC S u Y tm z r t2 := by
  obtain ⟨a1, a2, a3, a4, a5, a6, a7, a8⟩ := h
  obtain ⟨b1, b2, b3, b4, b5, b6, b7, b8⟩ := h'
  exact ⟨b1, b2, b3, b4, by omega, by omega, b7, sg_tr a8 b8 (Nat.le_refl _)⟩
theorem UC.aw {rs is : List Nat} {S S1 u : cS} {Y tm t1 : Nat} {z w : aS} (h : UC S S1 Y tm z w t1) (a : AW rs is S1 u) (hr : ∀ r ∈ [6, 7, 8, 9, 10, 11, 12, 13, 14, 16, 17, 18, 25, 26, 35], r ∉ rs) (hi : 8 ∉ is) : UC S u Y tm z w t1 := by
  obtain ⟨a1, a2, a3, a4, a5, a6, a7, a8⟩ := h
  exact ⟨a1.aw a (fun r h => hr r (by revert r; decide)), a2.aw a (fun r h => hr r (by revert r; decide)) rfl rfl, a3.aw a (fun r h => hr r (by revert r; decide)), (a.1 8 hi).trans a4, a5, a6, a7, sg_aw a8 a ⟨hr 12 (by decide), hr 13 (by decide)⟩⟩
theorem stp_stops (s : aS) (a b : Nat) : stp (stops s a b) = stp s := by
  unfold stops
  split
  · rfl
  · rfl
theorem sto_sp9 {s : aS} {a b : Nat} (h : sto s = 0) : sto (stops s a b) = a := by
  rw [show stops s a b = w1 (w1 s 0 3 a) 0 4 (b + 1) from if_pos h]
  rfl
theorem uc_stops {S u : cS} {Y tm t1 : Nat} {z w : aS} (h : UC S u Y tm z w t1) (a b : Nat) : UC S u Y tm z (stops w a b) t1 := by
  obtain ⟨a1, a2, a3, a4, a5, a6, a7, a8⟩ := h
  exact ⟨kt_stops a1 a b, KQ.aw a2 (rs := []) (is := []) AW.rf (by decide) (q_stops w a b) (n_stops w a b), a3, a4, a5, by rw [stp_stops]; exact a6, by rw [stp_stops]; exact a7, a8⟩
theorem UM.sp {u : cS} {w : aS} {a b : Nat} {v : Int32} (h : sto w = 0) (ha : a ≠ 0) (hv : v = sc a) : UM u (stops w a b) v := by
  unfold UM
  rw [sto_sp9 h]
  exact ⟨fun e => absurd e ha, fun _ => hv⟩
theorem UM.of0 {u : cS} {w : aS} {v : Int32} (h : UM u w v) (hv : v = 0) : sto w = 0 := by
  by_cases e : sto w = 0
  · exact e
  · exact sc_0.mp ((h.2 e).symm.trans hv)
theorem UM.ng {u : cS} {w : aS} {v : Int32} (h : UM u w v) (hv : ¬ v = 0) : sto w ≠ 0 := fun e => hv (h.1 e).1
theorem UM.nn {u : cS} {w : aS} {v : Int32} (h : UM u w v) (hv : ¬ 0 ≤ v) : sto w ≠ 0 := fun e => hv (by rw [(h.1 e).1]; decide)
theorem UM.aw {rs is : List Nat} {S u : cS} {w : aS} {v : Int32} (h : UM S w v) (a : AW rs is S u) (hi : 12 ∉ is) : UM u w v := ⟨fun e => ⟨(h.1 e).1, (a.1 12 hi).trans (h.1 e).2⟩, h.2⟩
theorem UE.eq {S u : cS} {Y tm : Nat} {z r r0 : aS} {v : Int32} (h : UE S u Y tm z r v) (e : r0 = r) : UE S u Y tm z r0 v := by
  rw [e]
  exact h
theorem UE.mk {S u : cS} {Y tm t1 : Nat} {z r r0 : aS} {v : Int32} (h : UC S u Y tm z r t1) (hm : UM u r v) (e : r0 = r) : UE S u Y tm z r0 v := UE.eq ⟨⟨t1, h⟩, hm⟩ e
theorem partBy_lt {n x q : Nat} : ∀ {ls ps : List Nat}, partBy ls ps x = some q → (∀ i, i < ps.length → ps.getD i 0 < n) → ls.length = ps.length → q < n
  | [], [], h, _, _ => by simp [partBy] at h
  | [], p :: ps, h, _, hl => by simp at hl
  | l :: ls, [], h, _, hl => by simp at hl
  | l :: ls, p :: ps, h, hp, hl => by
    rw [partBy] at h
    by_cases e : l = x
    · rw [if_pos e] at h
      obtain rfl := Option.some.inj h
      exact hp 0 (Nat.succ_pos _)
    · rw [if_neg e] at h
      exact partBy_lt h (fun i hi => hp (i + 1) (Nat.succ_lt_succ hi)) (Nat.succ.inj hl)
