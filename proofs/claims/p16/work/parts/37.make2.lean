theorem zlt {s : aS} {y : aG} {c e z : Nat} (hG : Glo s y c) (hz : Cx y c e z) : z < sZ y := hG.2.2.1.2.2.1 c hG.2.2.1.2.1 z (List.mem_of_getElem? hz)
def yA (s : aS) (y : aG) (z a b : Nat) : aG := ynew y (nT s) z (if nv y a = 0 ∧ nv y b = 0 then 0 else 1) 0 0 (if ng y a = 1 ∧ ps y b = 1 then 1 else 0) (if ps y a = 1 ∧ ng y b = 1 then 1 else 0)
theorem mkA_eq {s : aS} {a b : Nat} (h0 : sto s = 0) (hN : nT s ≠ 602) : mkA s a b = (w1 (w1 (newT s 1 (max (lev s a) (lev s b))) 3 (nT s) a) 4 (nT s) b, nT s) := by
  unfold mkA
  rw [if_neg (by omega), if_neg hN]
theorem mkA_at {s : aS} {a b : Nat} (x : Nat) : srt (w1 (w1 (newT s 1 (max (lev s a) (lev s b))) 3 (nT s) a) 4 (nT s) b) x = (if x = nT s then 1 else srt s x) ∧ lev (w1 (w1 (newT s 1 (max (lev s a) (lev s b))) 3 (nT s) a) 4 (nT s) b) x = (if x = nT s then max (lev s a) (lev s b) else lev s x) ∧ one (w1 (w1 (newT s 1 (max (lev s a) (lev s b))) 3 (nT s) a) 4 (nT s) b) x = (if x = nT s then a else one s x) ∧ two (w1 (w1 (newT s 1 (max (lev s a) (lev s b))) 3 (nT s) a) 4 (nT s) b) x = (if x = nT s then b else two s x) := by
  refine ⟨?_, ?_, ?_, ?_⟩
  · simp [srt, newT, w1, mst, nT]
  · simp [lev, newT, w1, mst, nT]
  · simp [one, newT, w1, mst, nT]
  · simp [two, newT, w1, mst, nT]
/-- what a new type leaves as it was -/
def Nw (s s' : aS) (y y' : aG) : Prop := nT s' = nT s + 1 ∧ (∀ f, 6 ≤ f → y'.1 f = y.1 f) ∧ y'.2 = y.2 ∧ sto s' = sto s ∧ stp s' = stp s ∧ bnd s' = bnd s ∧ nV s' = nV s ∧ s'.2.2 = s.2.2 ∧ (∀ g, g ≤ 1 → row s' g = row s g) ∧ memo s' = memo s ∧ askn s' = askn s ∧ s'.1 8 = s.1 8 ∧ s'.1 9 = s.1 9
theorem ynew_hi (y : aG) (t z n a r p q f : Nat) (hf : 6 ≤ f) : (ynew y t z n a r p q).1 f = y.1 f := by
  funext j
  simp [ynew, h1, mst, show f ≠ 0 by omega, show f ≠ 1 by omega, show f ≠ 2 by omega, show f ≠ 3 by omega, show f ≠ 4 by omega, show f ≠ 5 by omega]
theorem i_mkA {s : aS} {y : aG} {c e z a b : Nat} (hI : Inv s y c) (hz : Cx y c e z) (ha : Fi s y a e z) (hb : Fi s y b e z) (hm : max (lev s a) (lev s b) = e) (h0 : sto s = 0) (hN : nT s ≠ 602) (hpa : Apc y a) (hpb : Apc y b) :
    Inv (mkA s a b).1 (yA s y z a b) c ∧ Ex s y (mkA s a b).1 (yA s y z a b) ∧ (mkA s a b).2 = nT s ∧ Nw s (mkA s a b).1 y (yA s y z a b) ∧ Fi (mkA s a b).1 (yA s y z a b) (nT s) e z ∧ lev (mkA s a b).1 (nT s) = e ∧ srt (mkA s a b).1 (nT s) = 1 ∧ rm (yA s y z a b) (nT s) = 0 ∧ (ng y a = 1 → ps y b = 1 → ps (yA s y z a b) (nT s) = 1) ∧ (ps y a = 1 → ng y b = 1 → ng (yA s y z a b) (nT s) = 1) := by
  subst hm
  rw [mkA_eq h0 hN]
  have hG := hI.1
  have hzl := zlt hG hz
  have hn : nT s + 1 ≤ 602 := by have := hG.1.2.1; omega
  have hzc := hG.2.2.1.1
  have ho : ∀ x, x < nT s → srt (w1 (w1 (newT s 1 (max (lev s a) (lev s b))) 3 (nT s) a) 4 (nT s) b) x = srt s x ∧ lev (w1 (w1 (newT s 1 (max (lev s a) (lev s b))) 3 (nT s) a) 4 (nT s) b) x = lev s x ∧ one (w1 (w1 (newT s 1 (max (lev s a) (lev s b))) 3 (nT s) a) 4 (nT s) b) x = one s x ∧ two (w1 (w1 (newT s 1 (max (lev s a) (lev s b))) 3 (nT s) a) 4 (nT s) b) x = two s x ∧ parts (w1 (w1 (newT s 1 (max (lev s a) (lev s b))) 3 (nT s) a) 4 (nT s) b) x = parts s x ∧ labs (w1 (w1 (newT s 1 (max (lev s a) (lev s b))) 3 (nT s) a) 4 (nT s) b) x = labs s x := fun x hx => by
    obtain ⟨p1, p2, p3, p4⟩ := mkA_at (s := s) (a := a) (b := b) x
    rw [p1, p2, p3, p4]
    have hne : x ≠ nT s := by omega
    simp only [if_neg hne]
    exact ⟨trivial, trivial, trivial, trivial, rfl, rfl⟩
  obtain ⟨p1, p2, p3, p4⟩ := mkA_at (s := s) (a := a) (b := b) (nT s)
  rw [if_pos rfl] at p1 p2 p3 p4
  obtain ⟨q1, q2, q3, q4, q5, q6⟩ := ynew_at y (nT s) z (if nv y a = 0 ∧ nv y b = 0 then 0 else 1) 0 0 (if ng y a = 1 ∧ ps y b = 1 then 1 else 0) (if ps y a = 1 ∧ ng y b = 1 then 1 else 0) (nT s)
  rw [if_pos rfl] at q1 q2 q3 q4 q5 q6
  have hE : Ex s y (w1 (w1 (newT s 1 (max (lev s a) (lev s b))) 3 (nT s) a) 4 (nT s) b) (yA s y z a b) := ex_new ⟨rfl, rfl, rfl⟩ ho
  have hself : (pth y z)[max (lev s a) (lev s b)]? = some z := hz.self hzc
  have hlt := ha.1
  have hlt2 := hb.1
  obtain ⟨-, d2a, -, -, -, -, -⟩ := hE.2.2.2.1 a hlt
  have da := hE.2.2.2.1 a hlt
  have db := hE.2.2.2.1 b hlt2
  have ba := hE.2.1 a hlt
  have bb := hE.2.1 b hlt2
  refine ⟨i_new hI ⟨rfl, hn, rfl, rfl, rfl, rfl⟩ ho (fun g hg => rfl) rfl ?_ (by rw [p1]; omega), hE, rfl, ⟨rfl, fun f hf => ynew_hi _ _ _ _ _ _ _ _ f hf, rfl, rfl, rfl, rfl, rfl, rfl, fun g hg => rfl, rfl, rfl, rfl, rfl⟩, ?_, p2, p1, q4, fun h1 h2 => ?_, fun h1 h2 => ?_⟩
  · unfold Typ
    rw [p1, p2, p3, p4]
    unfold yA at hE da db
    rw [q1, q2, q3, q4, q5, q6]
    rw [ba.2.1, bb.2.1, da.2.1, db.2.1, da.2.2.2.2.1, db.2.2.2.2.1, da.2.2.2.2.2.1, db.2.2.2.2.2.1]
    refine ⟨⟨hzl, fun h => ?_⟩, Or.inr (Or.inl ⟨rfl, ⟨hlt, hlt2, rfl⟩, ⟨ha.ext hzl hE, hb.ext hzl hE⟩, fun h => ?_, rfl, rfl, fun h => ?_, fun h => ?_, hpa.ext hlt hE, hpb.ext hlt2 hE⟩)⟩
    · have hab : nv y a = 0 ∧ nv y b = 0 := by
        by_cases h5 : nv y a = 0 ∧ nv y b = 0
        · exact h5
        · rw [if_neg h5] at h
          omega
      have := (hI.2 a hlt).1.1.2 hab.1
      have := (hI.2 b hlt2).1.1.2 hab.2
      omega
    · by_cases h5 : nv y a = 0 ∧ nv y b = 0
      · exact h5
      · rw [if_neg h5] at h
        omega
    · by_cases h5 : ng y a = 1 ∧ ps y b = 1
      · exact h5
      · rw [if_neg h5] at h
        omega
    · by_cases h5 : ps y a = 1 ∧ ng y b = 1
      · exact h5
      · rw [if_neg h5] at h
        omega
  · refine ⟨Nat.lt_succ_self _, by rw [p2]; exact Nat.le_refl _, Or.inr ?_, fun h => ?_⟩
    · rw [p2]
      show (pth y z)[max (lev s a) (lev s b)]? = some (zn (ynew y (nT s) z _ 0 0 _ _) (nT s))
      rw [q1]
      exact hself
    · rw [p2] at h
      omega
  · show ps (ynew y (nT s) z _ 0 0 _ _) (nT s) = 1
    rw [q5, if_pos ⟨h1, h2⟩]
  · show ng (ynew y (nT s) z _ 0 0 _ _) (nT s) = 1
    rw [q6, if_pos ⟨h1, h2⟩]
