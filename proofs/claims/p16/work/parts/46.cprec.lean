theorem cpRc_ok {s s2 : aS} {y y2 : aG} {c t e g ab lv z : Nat} {l2 : List Nat} {an : Prop} (hS : Src y c g e ab lv z an) (hab : ab < lev s t) (h2b : srt s t = 2)
    (r2 : ∀ p ∈ parts s t, (ps y t = 1 → ps y p = 1) ∧ (ng y t = 1 → ng y p = 1)) (r3 : lev s t = lmax s (parts s t)) (r4 : (labs s t).length = (parts s t).length) (r6 : ng y t = 1 → (parts s t).length ≤ 1 ∧ rm y t = 0)
    (hI2 : Inv s2 y2 c) (hE2 : Ex s y s2 y2) (hK2 : Kp (nT s) 0 s y s2 y2 ab an) (hM2 : Mm s2 y2 lv z)
    (hR2 : sto s2 = 0 → l2.length = (parts s t).length ∧ (∀ q ∈ l2, Fi s2 y2 q lv z) ∧ ((∀ p ∈ parts s t, ps y p = 1) → ∀ q ∈ l2, ps y2 q = 1) ∧ ((∀ p ∈ parts s t, ng y p = 1) → ∀ q ∈ l2, ng y2 q = 1) ∧ ((∃ p ∈ parts s t, ab < lev s p) → ∃ q ∈ l2, lev s2 q = lv)) : CpG s y t c ab lv z an (mkR s2 (labs s t) l2) := by
  unfold CpG
  have h1 : ¬ lev s t ≤ ab := by omega
  have hS2 := hS.kp hK2
  by_cases h3 : sto s2 ≠ 0
  · have eq2 : mkR s2 (labs s t) l2 = (s2, 0) := by
      unfold mkR
      rw [if_pos h3]
    rw [eq2]
    exact ⟨y2, hI2, hE2, hK2, hM2, fun h => absurd h h3⟩
  have h3' : sto s2 = 0 := by omega
  by_cases h4 : nT s2 = 602
  · have eq2 : mkR s2 (labs s t) l2 = (stops s2 1 (askn s2), 0) := by
      unfold mkR
      rw [if_neg h3, if_pos h4]
    rw [eq2]
    obtain ⟨i1, i2⟩ := i_stops (w := 1) (p := askn s2) hI2
    exact ⟨y2, i1, hE2.tr i2, hK2.tr (kp_stops (q := 0)) hE2 (Nat.le_refl _), Mm.ext hM2 (hS2.zlt hI2.1) i2 memo_stops, fun h => absurd h (sto_stops (by omega))⟩
  obtain ⟨b1, b2, b3, b4, b5⟩ := hR2 h3'
  have hex : ∃ p ∈ parts s t, ab < lev s p := by
    rcases lmax.at (s := s) (parts s t) with h | ⟨x, hx1, hx2⟩
    · omega
    · exact ⟨x, hx1, by omega⟩
  obtain ⟨q, hq1, hq2⟩ := b5 hex
  have hlm : lmax s2 l2 = lv := by
    have h5 := lmax.le (s := s2) l2 q hq1
    rcases lmax.at (s := s2) l2 with h | ⟨x, hx1, hx2⟩
    · omega
    · have := (b2 x hx1).2.1
      omega
  obtain ⟨j1, j2, j3, j4, j5, j6, j7, j8, j9, j10, -, -⟩ := i_mkR (r := 0) (ls := labs s t) hI2 hS2.2.1.2.2 b2 (Or.inl hlm) (by omega) (by omega) h3' h4
  refine ⟨yR s2 y2 z l2 0, j1, hE2.tr j2, hK2.tr ((kp_nw j4).mono hE2.1.1 (Nat.le_refl _)) hE2 (Nat.le_refl _), Mm.ext hM2 (hS2.zlt hI2.1) j2 j4.2.2.2.2.2.2.2.2.2.1, fun _ => ?_⟩
  rw [j3]
  refine ⟨j5, fun h => ?_, fun h => ?_, fun h => absurd h h1, fun _ => ⟨j6.trans hlm, fun h => by omega, fun _ => ⟨by omega, by omega, j8, ?_⟩⟩⟩
  · exact j9 (b3 (fun p hp => (r2 p hp).1 h))
  · exact j10 rfl (by have := (r6 h).1; omega) (b4 (fun p hp => (r2 p hp).2 h))
  · have k1 := hK2.2.2.2.2.2.2
    have k2 : sN (yR s2 y2 z l2 0) = sN y2 := congrFun (j4.2.1 20 (by omega)) 9
    have k3 := j4.1
    have k4 := j4.2.2.2.2.2.2.1
    omega
