theorem CpF.iff {f : aS → Nat → aS × Nat} {c ab lv z : Nat} {an an' : Prop} (h : CpF f c ab lv z an) (he : an ↔ an') : CpF f c ab lv z an' := by
  have : an = an' := propext he
  rw [← this]
  exact h
theorem otw_ok {way : Nat} (h : way ≤ 2) : otw way ≤ 2 ∧ (otw way = 2 ↔ way = 2) := by
  unfold otw
  split <;> omega
theorem nw_of {s : aS} {y : aG} {c t : Nat} (hI : Inv s y c) (ht : t < nT s) (h3 : srt s t = 3) : ps y t = 1 ∧ ng y t = 1 ∧ rm y t = 0 := by
  obtain ⟨-, hh | hh | hh | hh⟩ := (hI.2 t ht).1
  · omega
  · omega
  · omega
  · exact ⟨hh.2.2.2.1.2.2.2.1, hh.2.2.2.1.2.2.2.2, hh.2.2.2.1.2.2.1⟩
theorem max_copy {ab lv l l1 l2 m1 m2 : Nat} (h : l = max l1 l2) (hab : ab < l) (h1 : ab < l1 → m1 = lv) (h2 : ab < l2 → m2 = lv) (b1 : m1 ≤ lv) (b2 : m2 ≤ lv) : max m1 m2 = lv := by
  rcases Nat.lt_or_ge ab l1 with h3 | h3
  · have := h1 h3
    omega
  · have := h2 (by omega)
    omega
/-- what a call of copying is to give -/
def CpG (s : aS) (y : aG) (t c ab lv z : Nat) (an : Prop) (r : aS × Nat) : Prop := ∃ y', Inv r.1 y' c ∧ Ex s y r.1 y' ∧ Kp (nT s) 0 s y r.1 y' ab an ∧ Mm r.1 y' lv z ∧ Got s y t r.1 y' r.2 ab lv z
theorem cpA_ok {s s1 s2 : aS} {y y1 y2 : aG} {c t e g ab lv z r1' r2' : Nat} {an : Prop} (hI : Inv s y c) (hS : Src y c g e ab lv z an) (ht : Fi s y t e g) (hab : ab < lev s t) (h2 : srt s t = 1)
    (hE1 : Ex s y s1 y1) (hK1 : Kp (nT s) 0 s y s1 y1 ab an) (hI1 : Inv s1 y1 c) (hR1 : Got s y (one s t) s1 y1 r1' ab lv z) (f2 : Fi s y (two s t) e g)
    (hst : sto s1 ≠ 0 → sto s2 ≠ 0) (hI2 : Inv s2 y2 c) (hE2 : Ex s1 y1 s2 y2) (hK2 : Kp (nT s1) 0 s1 y1 s2 y2 ab an) (hM2 : Mm s2 y2 lv z) (hR2 : Got s1 y1 (two s t) s2 y2 r2' ab lv z)
    (r4 : lev s t = max (lev s (one s t)) (lev s (two s t))) (r10 : ps y t = 1 → ng y (one s t) = 1 ∧ ps y (two s t) = 1) (r11 : ng y t = 1 → ps y (one s t) = 1 ∧ ng y (two s t) = 1) (r12 : Apc y (one s t)) (r13 : Apc y (two s t)) (f1 : one s t < nT s) : CpG s y t c ab lv z an (mkA s2 r1' r2') := by
  unfold CpG
  have h1 : ¬ lev s t ≤ ab := by omega
  have hE12 := hE1.tr hE2
  have hK12 := hK1.tr (hK2.mono hE1.1.1 (Nat.le_refl _)) hE1 (Nat.le_refl _)
  have hS2 := (hS.kp hK1).kp hK2
  by_cases h3 : sto s2 ≠ 0
  · have eq2 : mkA s2 r1' r2' = (s2, 0) := by
      unfold mkA
      rw [if_pos h3]
    rw [eq2]
    exact ⟨y2, hI2, hE12, hK12, hM2, fun h => absurd h h3⟩
  have h3' : sto s2 = 0 := by omega
  have h3s : sto s1 = 0 := by
    apply Classical.byContradiction
    intro h
    exact hst h h3'
  by_cases h4 : nT s2 = 602
  · have eq2 : mkA s2 r1' r2' = (stops s2 1 (askn s2), 0) := by
      unfold mkA
      rw [if_neg h3, if_pos h4]
    rw [eq2]
    obtain ⟨i1, i2⟩ := i_stops (w := 1) (p := askn s2) hI2
    exact ⟨y2, i1, hE12.tr i2, hK12.tr (kp_stops (q := 0)) hE12 (Nat.le_refl _), Mm.ext hM2 (hS2.zlt hI2.1) i2 memo_stops, fun h => absurd h (sto_stops (by omega))⟩
  obtain ⟨b1, b2, b3, b4, b5⟩ := hR1 h3s
  obtain ⟨d1, d2, d3, d4, d5⟩ := hR2 h3'
  have hzl1 : z < sZ y1 := (hS.kp hK1).zlt hI1.1
  have b1' := b1.ext hzl1 hE2
  have hp1 : Apc y2 r1' := fun hr => by
    rcases Nat.lt_or_ge ab (lev s (one s t)) with h | h
    · exfalso
      by_cases h7 : srt s (one s t) = 3
      · have h8 := (nw_of hI1 b1.1 ((b5 h).2.1 h7)).2.2
        rw [(hE2.2.2.2.1 _ b1.1).2.2.2.1] at hr
        omega
      · have h8 := ((b5 h).2.2 h7).2.2.1
        rw [(hE2.2.2.2.1 _ b1.1).2.2.2.1] at hr
        omega
    · rw [b4 h] at hr ⊢
      exact r12.ext f1 (hE1.tr hE2) hr
  have hp2 : Apc y2 r2' := fun hr => by
    have hl2 : lev s1 (two s t) = lev s (two s t) := (hE1.2.1 _ f2.1).2.1
    have hs2 : srt s1 (two s t) = srt s (two s t) := (hE1.2.1 _ f2.1).1
    rcases Nat.lt_or_ge ab (lev s1 (two s t)) with h | h
    · exfalso
      by_cases h7 : srt s1 (two s t) = 3
      · have h8 := (nw_of hI2 d1.1 ((d5 h).2.1 h7)).2.2
        omega
      · have h8 := ((d5 h).2.2 h7).2.2.1
        omega
    · rw [d4 h] at hr ⊢
      exact r13.ext f2.1 (hE1.tr hE2) hr
  have hlev : max (lev s2 r1') (lev s2 r2') = lv := max_copy r4 hab (fun h => ((hE2.2.1 _ b1.1).2.1).trans (b5 h).1) (fun h => (d5 (by rw [(hE1.2.1 _ f2.1).2.1]; exact h)).1) b1'.2.1 d1.2.1
  obtain ⟨j1, j2, j3, j4, j5, j6, j7, j8, j9, j10⟩ := i_mkA hI2 hS2.2.1.2.2 b1' d1 hlev h3' h4 hp1 hp2
  have hNw := j4
  refine ⟨yA s2 y2 z r1' r2', j1, hE12.tr j2, hK12.tr ((kp_nw j4).mono hE12.1.1 (Nat.le_refl _)) hE12 (Nat.le_refl _), Mm.ext hM2 (hS2.zlt hI2.1) j2 j4.2.2.2.2.2.2.2.2.2.1, fun _ => ?_⟩
  rw [j3]
  have g1 := (hE2.2.2.2.1 _ b1.1)
  have g2 := (hE1.2.2.2.1 _ f2.1)
  refine ⟨j5, fun h => ?_, fun h => ?_, fun h => absurd h h1, fun _ => ⟨j6, fun h => by omega, fun _ => ⟨by omega, by omega, j8, ?_⟩⟩⟩
  · refine j9 ?_ ?_
    · rw [g1.2.2.2.2.2.1]
      exact b3 (r10 h).1
    · exact d2 (by rw [g2.2.2.2.2.1]; exact (r10 h).2)
  · refine j10 ?_ ?_
    · rw [g1.2.2.2.2.1]
      exact b2 (r11 h).1
    · exact d3 (by rw [g2.2.2.2.2.2.1]; exact (r11 h).2)
  · have k1 := hK12.2.2.2.2.2.2
    have k2 : sN (yA s2 y2 z r1' r2') = sN y2 := congrFun (j4.2.1 20 (by omega)) 9
    have k3 := j4.1
    have k4 := j4.2.2.2.2.2.2.1
    omega
