def yR (s : aS) (y : aG) (z : Nat) (l : List Nat) (r : Nat) : aG := ynew y (nT s) ((pth y z).getD (lmax s l) 0) (if ∀ p ∈ l, nv y p = 0 then 0 else 1) (if r = 1 ∧ ∀ p ∈ l, ar y p = 1 then 1 else 0) r (if ∀ p ∈ l, ps y p = 1 then 1 else 0) (if r = 0 ∧ l.length ≤ 1 ∧ ∀ p ∈ l, ng y p = 1 then 1 else 0)
theorem mkR_eq {s : aS} {ls l : List Nat} (h0 : sto s = 0) (hN : nT s ≠ 602) : mkR s ls l = (w2 (w2 (newT s 2 (lmax s l)) 2 (nT s) l) 3 (nT s) ls, nT s) := by
  unfold mkR
  rw [if_neg (by omega), if_neg hN]
theorem mkR_at {s : aS} {ls l : List Nat} (x : Nat) : srt (w2 (w2 (newT s 2 (lmax s l)) 2 (nT s) l) 3 (nT s) ls) x = (if x = nT s then 2 else srt s x) ∧ lev (w2 (w2 (newT s 2 (lmax s l)) 2 (nT s) l) 3 (nT s) ls) x = (if x = nT s then lmax s l else lev s x) ∧ parts (w2 (w2 (newT s 2 (lmax s l)) 2 (nT s) l) 3 (nT s) ls) x = (if x = nT s then l else parts s x) ∧ labs (w2 (w2 (newT s 2 (lmax s l)) 2 (nT s) l) 3 (nT s) ls) x = (if x = nT s then ls else labs s x) := by
  refine ⟨?_, ?_, ?_, ?_⟩
  · simp [srt, newT, w1, w2, mst, nT]
  · simp [lev, newT, w1, w2, mst, nT]
  · simp [parts, newT, w1, w2, lst, nT]
  · simp [labs, newT, w1, w2, lst, nT]
theorem i_mkR {s : aS} {y : aG} {c e z r : Nat} {ls l : List Nat} (hI : Inv s y c) (hz : Cx y c e z) (hl : ∀ p ∈ l, Fi s y p e z) (hm : lmax s l = e ∨ r = 1) (hL : ls.length = l.length) (hr : r ≤ 1) (h0 : sto s = 0) (hN : nT s ≠ 602) :
    Inv (mkR s ls l).1 (yR s y z l r) c ∧ Ex s y (mkR s ls l).1 (yR s y z l r) ∧ (mkR s ls l).2 = nT s ∧ Nw s (mkR s ls l).1 y (yR s y z l r) ∧ Fi (mkR s ls l).1 (yR s y z l r) (nT s) e z ∧ lev (mkR s ls l).1 (nT s) = lmax s l ∧ srt (mkR s ls l).1 (nT s) = 2 ∧ rm (yR s y z l r) (nT s) = r ∧ ((∀ p ∈ l, ps y p = 1) → ps (yR s y z l r) (nT s) = 1) ∧ (r = 0 → l.length ≤ 1 → (∀ p ∈ l, ng y p = 1) → ng (yR s y z l r) (nT s) = 1) ∧ parts (mkR s ls l).1 (nT s) = l ∧ labs (mkR s ls l).1 (nT s) = ls := by
  rw [mkR_eq h0 hN]
  have hG := hI.1
  have hzl := zlt hG hz
  have hn : nT s + 1 ≤ 602 := by have := hG.1.2.1; omega
  have hzc := hG.2.2.1.1
  have hle : lmax s l ≤ e := by
    rcases lmax.at (s := s) l with h | ⟨x, h1, h2⟩
    · omega
    · rw [← h2]
      exact (hl x h1).2.1
  obtain ⟨z', hz'⟩ : ∃ z', Cx y c (lmax s l) z' := by
    have h1 := (hz.len hzc).2.1
    exact ⟨(pth y c)[lmax s l]'(by omega), List.getElem?_eq_getElem _⟩
  have hzz : (pth y z)[lmax s l]? = some z' := by
    rw [hz.at hzc hle]
    exact hz'
  have hzg : (pth y z).getD (lmax s l) 0 = z' := by
    rw [List.getD_eq_getElem?_getD, hzz]
    rfl
  have hzl' := zlt hG hz'
  have ho : ∀ x, x < nT s → srt (w2 (w2 (newT s 2 (lmax s l)) 2 (nT s) l) 3 (nT s) ls) x = srt s x ∧ lev (w2 (w2 (newT s 2 (lmax s l)) 2 (nT s) l) 3 (nT s) ls) x = lev s x ∧ one (w2 (w2 (newT s 2 (lmax s l)) 2 (nT s) l) 3 (nT s) ls) x = one s x ∧ two (w2 (w2 (newT s 2 (lmax s l)) 2 (nT s) l) 3 (nT s) ls) x = two s x ∧ parts (w2 (w2 (newT s 2 (lmax s l)) 2 (nT s) l) 3 (nT s) ls) x = parts s x ∧ labs (w2 (w2 (newT s 2 (lmax s l)) 2 (nT s) l) 3 (nT s) ls) x = labs s x := fun x hx => by
    obtain ⟨p1, p2, p3, p4⟩ := mkR_at (s := s) (ls := ls) (l := l) x
    rw [p1, p2, p3, p4]
    have hne : x ≠ nT s := by omega
    simp only [if_neg hne]
    exact ⟨trivial, trivial, rfl, rfl, trivial, trivial⟩
  obtain ⟨p1, p2, p3, p4⟩ := mkR_at (s := s) (ls := ls) (l := l) (nT s)
  rw [if_pos rfl] at p1 p2 p3 p4
  obtain ⟨q1, q2, q3, q4, q5, q6⟩ := ynew_at y (nT s) ((pth y z).getD (lmax s l) 0) (if ∀ p ∈ l, nv y p = 0 then 0 else 1) (if r = 1 ∧ ∀ p ∈ l, ar y p = 1 then 1 else 0) r (if ∀ p ∈ l, ps y p = 1 then 1 else 0) (if r = 0 ∧ l.length ≤ 1 ∧ ∀ p ∈ l, ng y p = 1 then 1 else 0) (nT s)
  rw [if_pos rfl] at q1 q2 q3 q4 q5 q6
  replace q1 := q1.trans hzg
  have hE : Ex s y (w2 (w2 (newT s 2 (lmax s l)) 2 (nT s) l) 3 (nT s) ls) (yR s y z l r) := ex_new ⟨rfl, rfl, rfl⟩ ho
  have hE0 := hE
  obtain ⟨-, eb, -, ed, -, -⟩ := hE0
  have hnv0 : (∀ p ∈ l, nv y p = 0) → lmax s l = 0 := fun h => by
    rcases lmax.at (s := s) l with h1 | ⟨x, h1, h2⟩
    · exact h1
    · rw [← h2]
      exact (hI.2 x (hl x h1).1).1.1.2 (h x h1)
  refine ⟨i_new hI ⟨rfl, hn, rfl, rfl, rfl, rfl⟩ ho (fun g hg => ?_) rfl ?_ (by rw [p1]; omega), hE, rfl, ⟨rfl, fun f hf => ynew_hi _ _ _ _ _ _ _ _ f hf, rfl, rfl, rfl, rfl, rfl, rfl, fun g hg => ?_, rfl, rfl, rfl, rfl⟩, ?_, p2, p1, q4, fun h => ?_, fun h1 h2 h3 => ?_, p3, p4⟩
  · funext x
    show (if g = 3 then _ else if g = 2 then _ else row s g x) = row s g x
    rw [if_neg (by omega), if_neg (by omega)]
  · unfold Typ
    rw [p1, p2, p3, p4, q1, q2, q3, q4, q5, q6]
    refine ⟨⟨hzl', fun h => ?_⟩, Or.inr (Or.inr (Or.inl ⟨rfl, fun p hp => ?_, ?_, hL, fun h => ?_, fun h => ?_⟩))⟩
    · by_cases h5 : ∀ p ∈ l, nv y p = 0
      · exact hnv0 h5
      · rw [if_neg h5] at h
        omega
    · have hp1 := (hl p hp).1
      obtain ⟨d1, d2, d3, d4, d5, d6, -⟩ := ed p hp1
      unfold yR at d1 d2 d3 d4 d5 d6
      rw [d2, d3, d5, d6]
      refine ⟨hp1, Fi.ext ((hl p hp).down hzc hz hz' (lmax.le l p hp) hle) hzl' hE, fun h => ?_, fun h => ?_, fun h => ?_, fun h => ?_⟩
      · by_cases h5 : ∀ p ∈ l, nv y p = 0
        · exact h5 p hp
        · rw [if_neg h5] at h
          omega
      · by_cases h5 : r = 1 ∧ ∀ p ∈ l, ar y p = 1
        · exact h5.2 p hp
        · rw [if_neg h5] at h
          omega
      · by_cases h5 : ∀ p ∈ l, ps y p = 1
        · exact h5 p hp
        · rw [if_neg h5] at h
          omega
      · by_cases h5 : r = 0 ∧ l.length ≤ 1 ∧ ∀ p ∈ l, ng y p = 1
        · exact h5.2.2 p hp
        · rw [if_neg h5] at h
          omega
    · exact (lmax.ext (s := s) l (fun x hx => (eb x (hl x hx).1).2.1)).symm
    · by_cases h5 : r = 1 ∧ ∀ p ∈ l, ar y p = 1
      · exact h5.1
      · rw [if_neg h5] at h
        omega
    · by_cases h5 : r = 0 ∧ l.length ≤ 1 ∧ ∀ p ∈ l, ng y p = 1
      · exact ⟨h5.2.1, h5.1⟩
      · rw [if_neg h5] at h
        omega
  · funext x
    show (if g = 3 then _ else if g = 2 then _ else row s g x) = row s g x
    rw [if_neg (by omega), if_neg (by omega)]
  · unfold Fi
    rw [p2]
    refine ⟨Nat.lt_succ_self _, hle, Or.inr ?_, fun h => ?_⟩
    · show (pth y z)[lmax s l]? = some (zn (ynew y (nT s) _ _ _ r _ _) (nT s))
      rw [q1]
      exact hzz
    · have hr1 : r = 1 := by
        rcases hm with hm | hm
        · omega
        · exact hm
      have har : ∀ p ∈ l, ar y p = 1 := fun p hp => ((hl p hp).2.2.2 (by have := lmax.le (s := s) l p hp; omega)).1
      show ar (ynew y (nT s) _ _ _ r _ _) (nT s) = 1 ∧ (nv (ynew y (nT s) _ _ _ r _ _) (nT s) = 0 ∨ ih y (zn (ynew y (nT s) _ _ _ r _ _) (nT s)) = 1)
      rw [q1, q2, q3, if_pos ⟨hr1, har⟩]
      refine ⟨rfl, ?_⟩
      by_cases h5 : ∀ p ∈ l, nv y p = 0
      · rw [if_pos h5]
        exact Or.inl rfl
      · right
        have key : ∀ p ∈ l, lev s p = lmax s l → nv y p ≠ 0 → ih y z' = 1 := fun p hp h6 h7 => by
          have h8 := ((hl p hp).2.2.2 (by omega)).2.resolve_left h7
          have h9 := (hl p hp).2.2.1.resolve_left h7
          rw [h6, hzz] at h9
          rw [Option.some.inj h9]
          exact h8
        have hex : ∃ p, p ∈ l ∧ nv y p ≠ 0 := by
          apply Classical.byContradiction
          intro h6
          apply h5
          intro p hp
          apply Classical.byContradiction
          intro h7
          exact h6 ⟨p, hp, h7⟩
        obtain ⟨p, hp, h6⟩ := hex
        rcases lmax.at (s := s) l with h7 | ⟨x, h7, h8⟩
        · exact key p hp (by have := lmax.le (s := s) l p hp; omega) h6
        · by_cases h9 : nv y x = 0
          · have := (hI.2 x (hl x h7).1).1.1.2 h9
            exact key p hp (by have := lmax.le (s := s) l p hp; omega) h6
          · exact key x h7 h8 h9
  · show ps (ynew y (nT s) _ _ _ r _ _) (nT s) = 1
    rw [q5, if_pos h]
  · show ng (ynew y (nT s) _ _ _ r _ _) (nT s) = 1
    rw [q6, if_pos ⟨h1, h2, h3⟩]
