/-! ===== an arrow; a record, part by part ===== -/
theorem MR.r_mkA {s : aS} {ix : Nat → Nat → Nat} {o o' : Nat → Int32} {F F' : Nat → Nat → Int32} {x1 x2 lv : Nat} (h : MR s ix o F) (h0 : sto s = 0) (ht : nT s ≠ 602) (hx1 : x1 < nT s) (hx2 : x2 < nT s) (hlv : lv = max (lev s x1) (lev s x2))
    (e7 : o' 7 = nI (nT s + 1)) (eo : o' 14 = o 14 ∧ o' 16 = o 16 ∧ o' 26 = o 26 ∧ o' 27 = o 27 ∧ o' 24 = o 24 ∧ o' 25 = o 25 ∧ o' 28 = o 28)
    (e8 : F' 8 = upd (F 8) (nT s) (nI 1)) (e9 : F' 9 = upd (F 9) (nT s) (nI lv)) (e10 : F' 10 = upd (F 10) (nT s) (nI x1)) (e11 : F' 11 = upd (F 11) (nT s) (nI x2))
    (ef : F' 15 = F 15 ∧ F' 17 = F 17 ∧ F' 18 = F 18 ∧ F' 19 = F 19 ∧ F' 20 = F 20 ∧ F' 21 = F 21 ∧ F' 29 = F 29 ∧ F' 30 = F 30) (ef2 : F' 12 = F 12 ∧ F' 13 = F 13) : MR (mkA s x1 x2).1 ix o' F' ∧ (mkA s x1 x2).2 = nT s ∧ sto (mkA s x1 x2).1 = 0 ∧ nT (mkA s x1 x2).1 = nT s + 1 := by
  have e : mkA s x1 x2 = (w1 (w1 (newT s 1 (max (lev s x1) (lev s x2))) 3 (nT s) x1) 4 (nT s) x2, nT s) := by
    unfold mkA
    rw [if_neg (fun h => h h0), if_neg ht]
  rw [e, ← hlv]
  have l1 := (h.2.2.1 x1 hx1).2.2.2
  have l2 := (h.2.2.1 x2 hx2).2.2.2
  refine ⟨?_, rfl, h0, rfl⟩
  refine MR.r_mk (k := 1) (lv := lv) (x1 := x1) (x2 := x2) (ls := []) (ps := []) h ht (Or.inl rfl) (by omega) ⟨rfl, rfl, rfl, rfl, rfl, rfl, rfl, rfl⟩ (fun _ => rfl) (fun _ => rfl) (fun t => ?_) (fun t => ?_) (fun t => ?_) (fun t => ?_) (fun _ => rfl) (fun sd hsd t => ?_) e7 eo e8 (fun t _ => ?_) (fun t ht => ?_) (fun t ht => ?_) (fun t _ i _ => ⟨by rw [ef2.1], by rw [ef2.2]⟩) ⟨fun _ => ⟨by rw [e10, upd_s], by rw [e11, upd_s], hx1, hx2⟩, fun h => absurd h (by decide)⟩ ef
  · show (if t = nT s then x1 else one s t) = _
    by_cases e : t = nT s
    · rw [if_pos e, if_pos ⟨e, rfl⟩]
    · rw [if_neg e, if_neg (fun z => e z.1)]
  · show (if t = nT s then x2 else two s t) = _
    by_cases e : t = nT s
    · rw [if_pos e, if_pos ⟨e, rfl⟩]
    · rw [if_neg e, if_neg (fun z => e z.1)]
  · show parts s t = _
    rw [if_neg (fun z => absurd z.2 (by decide))]
  · show labs s t = _
    rw [if_neg (fun z => absurd z.2 (by decide))]
  · rfl
  · rw [e9]
    rfl
  · rw [e10, upd_n (by omega)]
  · rw [e11, upd_n (by omega)]
/-- a record under way: made from (o0, F0) at s, with its first parts -/
def Rp (s : aS) (o0 : Nat → Int32) (F0 : Nat → Nat → Int32) (ls ps : List Nat) (o : Nat → Int32) (F : Nat → Nat → Int32) : Prop :=
  (o = upd o0 7 (nI (nT s + 1)) ∧ F 8 = upd (F0 8) (nT s) (nI 2) ∧ F 9 = upd (F0 9) (nT s) (nI (lmax s ps)) ∧ F 10 = upd (F0 10) (nT s) (nI ps.length) ∧ ls.length = ps.length) ∧
  (∀ j, j < 6 * nT s → F 12 j = F0 12 j ∧ F 13 j = F0 13 j) ∧ (∀ i, i < ps.length → F 12 (6 * nT s + i) = nI (ls.getD i 0) ∧ F 13 (6 * nT s + i) = nI (ps.getD i 0) ∧ ps.getD i 0 < nT s ∧ ls.getD i 0 < 26) ∧ ∀ k, k ∉ [8, 9, 10, 12, 13] → F k = F0 k
theorem Rp.start {s : aS} {o0 : Nat → Int32} {F0 : Nat → Nat → Int32} : Rp s o0 F0 [] [] (upd o0 7 (nI (nT s + 1))) (fput (fput (fput F0 8 (nT s) (nI 2)) 9 (nT s) (nI 0)) 10 (nT s) (nI 0)) := by
  refine ⟨⟨rfl, rfl, rfl, rfl, rfl⟩, fun j hj => ⟨rfl, rfl⟩, fun i hi => absurd hi (by simp), fun k hk => ?_⟩
  simp only [List.mem_cons, List.not_mem_nil, or_false, not_or] at hk
  simp [fput, hk]
theorem lmax_app {s : aS} {x : Nat} : ∀ l : List Nat, lmax s (l ++ [x]) = max (lmax s l) (lev s x)
  | [] => by show max (lev s x) 0 = max 0 (lev s x); omega
  | y :: l => by
    show max (lev s y) (lmax s (l ++ [x])) = max (max (lev s y) (lmax s l)) (lev s x)
    rw [lmax_app l]
    omega
theorem Rp.add {s : aS} {o0 o : Nat → Int32} {F0 F : Nat → Nat → Int32} {ls ps : List Nat} {la x k lv : Nat} (h : Rp s o0 F0 ls ps o F) (hx : x < nT s) (hla : la < 26) (hk : k = ps.length) (hlv : lv = max (lmax s ps) (lev s x)) : Rp s o0 F0 (ls ++ [la]) (ps ++ [x]) o (fput (fput (fput (fput F 12 (6 * nT s + k) (nI la)) 13 (6 * nT s + k) (nI x)) 10 (nT s) (nI (k + 1))) 9 (nT s) (nI lv)) := by
  obtain ⟨⟨h1, h2, h3, h4, h5⟩, h6, h7, h8⟩ := h
  have uu : ∀ (f : Nat → Int32) (k : Nat) (x y : Int32), upd (upd f k x) k y = upd f k y := by
    intro f k x y
    funext j
    unfold upd
    by_cases e : j = k
    · simp [e]
    · simp [e]
  refine ⟨⟨h1, h2, ?_, ?_, by simp [h5]⟩, fun j hj => ?_, fun i hi => ?_, fun k' hk' => ?_⟩
  · show upd (F 9) (nT s) (nI lv) = _
    rw [h3, uu, lmax_app, hlv]
  · show upd (F 10) (nT s) (nI (k + 1)) = _
    rw [h4, uu, hk, List.length_append]
    rfl
  · obtain ⟨g1, g2⟩ := h6 j hj
    refine ⟨?_, ?_⟩
    · show upd (F 12) (6 * nT s + k) (nI la) j = _
      rw [upd_n (by omega), g1]
    · show upd (F 13) (6 * nT s + k) (nI x) j = _
      rw [upd_n (by omega), g2]
  · rw [List.length_append] at hi
    simp only [List.length_cons, List.length_nil] at hi
    show upd (F 12) (6 * nT s + k) (nI la) (6 * nT s + i) = _ ∧ upd (F 13) (6 * nT s + k) (nI x) (6 * nT s + i) = _ ∧ _
    by_cases e : i = k
    · rw [e, upd_s, upd_s, gtR (by omega), gtR hk]
      exact ⟨rfl, rfl, hx, hla⟩
    · obtain ⟨g1, g2, g3, g4⟩ := h7 i (by omega)
      rw [upd_n (by omega), upd_n (by omega), gtL (by omega), gtL (by omega)]
      exact ⟨g1, g2, g3, g4⟩
  · have := h8 k' hk'
    simp only [List.mem_cons, List.not_mem_nil, or_false, not_or] at hk'
    rw [← this]
    simp [fput, hk']
theorem Rp.done {s : aS} {ix : Nat → Nat → Nat} {o0 o : Nat → Int32} {F0 F : Nat → Nat → Int32} {ls ps : List Nat} (h : Rp s o0 F0 ls ps o F) (hR : MR s ix o0 F0) (h0 : sto s = 0) (ht : nT s ≠ 602) (hp : ps.length ≤ 6) : MR (mkR s ls ps).1 ix o F ∧ (mkR s ls ps).2 = nT s ∧ sto (mkR s ls ps).1 = 0 ∧ nT (mkR s ls ps).1 = nT s + 1 ∧ Kq [7, 8, 9, 10, 12, 13] o0 F0 (o, F) := by
  obtain ⟨⟨rfl, h2, h3, h4, h5⟩, h6, h7, h8⟩ := h
  have e : mkR s ls ps = (w2 (w2 (newT s 2 (lmax s ps)) 2 (nT s) ps) 3 (nT s) ls, nT s) := by
    unfold mkR
    rw [if_neg (fun h => h h0), if_neg ht]
  rw [e]
  refine ⟨?_, rfl, h0, rfl, fun k hk => ⟨?_, ?_⟩⟩
  · have hl : lmax s ps ≤ 100 := by
      obtain ⟨-, -, c1, -⟩ := hR
      have key : ∀ l : List Nat, (∀ x ∈ l, x < nT s) → lmax s l ≤ 100 := by
        intro l
        induction l with
        | nil => intro _; exact Nat.zero_le _
        | cons x l ih =>
          intro hm
          have a := (c1 x (hm x (by simp))).2.2.2
          have b := ih (fun y hy => hm y (by simp [hy]))
          show max (lev s x) (lmax s l) ≤ 100
          omega
      refine key ps (fun x hx => ?_)
      obtain ⟨i, hi, e⟩ := List.getElem_of_mem hx
      have := (h7 i hi).2.2.1
      rw [gtD hi, e] at this
      exact this
    refine MR.r_mk (k := 2) (lv := lmax s ps) (x1 := 0) (x2 := 0) (ls := ls) (ps := ps) hR ht (Or.inr rfl) hl ⟨rfl, rfl, rfl, rfl, rfl, rfl, rfl, rfl⟩ (fun _ => rfl) (fun _ => rfl) (fun t => ?_) (fun t => ?_) (fun t => ?_) (fun t => ?_) (fun _ => rfl) (fun sd hsd t => ?_) rfl ⟨rfl, rfl, rfl, rfl, rfl, rfl, rfl⟩ h2 (fun t _ => ?_) (fun t ht => ?_) (fun t ht => ?_) (fun t ht2 i hi => h6 _ (by omega)) ⟨fun h => absurd h (by decide), fun _ => ⟨by rw [h4, upd_s], h5, hp, fun i hi => h7 i hi⟩⟩ ⟨h8 15 (by decide), h8 17 (by decide), h8 18 (by decide), h8 19 (by decide), h8 20 (by decide), h8 21 (by decide), h8 29 (by decide), h8 30 (by decide)⟩
    · rw [if_neg (fun z => absurd z.2 (by decide))]
      rfl
    · rw [if_neg (fun z => absurd z.2 (by decide))]
      rfl
    · show (if t = nT s then ps else parts s t) = _
      by_cases e : t = nT s
      · rw [if_pos e, if_pos ⟨e, rfl⟩]
      · rw [if_neg e, if_neg (fun z => e z.1)]
    · show (if t = nT s then ls else labs s t) = _
      by_cases e : t = nT s
      · rw [if_pos e, if_pos ⟨e, rfl⟩]
      · rw [if_neg e, if_neg (fun z => e z.1)]
    · rcases (by omega : sd = 0 ∨ sd = 1) with rfl | rfl
      · rfl
      · rfl
    · rw [h3]
      rfl
    · rw [h4, upd_n (by omega)]
    · rw [h8 11 (by decide)]
  · simp only [List.mem_cons, List.not_mem_nil, or_false, not_or] at hk
    show upd o0 7 _ k = o0 k
    rw [upd_n hk.1]
  · refine h8 k (fun h => hk ?_)
    simp only [List.mem_cons, List.not_mem_nil, or_false] at h ⊢
    omega
/-- a record's part by its label -/
theorem partBy_none {x : Nat} : ∀ {ls ps : List Nat}, ls.length = ps.length → (∀ i, i < ps.length → ls.getD i 0 ≠ x) → partBy ls ps x = none
  | [], [], _, _ => rfl
  | l :: ls, q :: ps, h, hn => by
    have h0 := hn 0 (by simp)
    have h1 : l ≠ x := h0
    unfold partBy
    rw [if_neg h1]
    exact partBy_none (by simpa using h) (fun i hi => by
      have := hn (i + 1) (by simpa using hi)
      simpa using this)
theorem partBy_some {x : Nat} : ∀ {ls ps : List Nat} {i : Nat}, ls.length = ps.length → i < ps.length → ls.getD i 0 = x → (∀ j, j < i → ls.getD j 0 ≠ x) → partBy ls ps x = some (ps.getD i 0)
  | _, [], _, _, hi, _, _ => absurd hi (by simp)
  | [], _ :: _, _, h, _, _, _ => absurd h (by simp)
  | l :: ls, q :: ps, 0, _, _, hx, _ => by
    have h1 : l = x := hx
    unfold partBy
    rw [if_pos h1]
    rfl
  | l :: ls, q :: ps, i + 1, h, hi, hx, hn => by
    have h1 : l ≠ x := hn 0 (by omega)
    unfold partBy
    rw [if_neg h1]
    exact partBy_some (i := i) (by simpa using h) (by simpa using hi) (by simpa using hx) (fun j hj => by
      have := hn (j + 1) (by omega)
      simpa using this)
theorem nI_neg {n : Nat} {x : Int32} (hx : x.toInt < 0) (h : n < 2 ^ 31) : ¬ nI n = x := by
  intro e
  have := nI_toInt h
  rw [e] at this
  omega
theorem stops_sto {s : aS} {ix : Nat → Nat → Nat} {o : Nat → Int32} {F : Nat → Nat → Int32} {p : Nat} (h : MR s ix o F) : sto (stops s 1 p) ≠ 0 := by
  unfold stops
  by_cases h0 : sto s = 0
  · rw [if_pos h0]
    exact fun h => absurd (show (1 : Nat) = 0 from h) (by decide)
  · rw [if_neg h0]
    exact h0
