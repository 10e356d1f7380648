theorem ku_pay {s : aS} {y : aG} {b : Nat} : Ku s y s (pay y) 0 0 0 b := Ku.gh (fun i hi => by rcases hi with h | h | h <;> subst h <;> rfl) (fun _ => rfl) (fun _ => rfl) ⟨Nat.le_refl _, Nat.le_refl _⟩ (fun _ _ => Nat.le_add_right _ _)
theorem ku_ntb {s : aS} {y : aG} {u b : Nat} : Ku s y s (ntb y u) 0 0 0 b := Ku.gh (fun i hi => rfl) (fun _ => rfl) (fun _ => rfl) ⟨Nat.le_refl _, Nat.le_refl _⟩ (fun _ _ => Nat.le_add_right _ _)
theorem ku_wst {s : aS} {y : aG} {r d b : Nat} : Ku s y s (wst y r d) 0 0 0 b ∧ sg (wst y r d) = sg y + r ∧ sd (wst y r d) = sd y + d ∧ itl (wst y r d) = itl y ∧ apl (wst y r d) = apl y := by
  have e1 : sg (wst y r d) = sg y + r := rfl
  have e2 : sd (wst y r d) = sd y + d := rfl
  refine ⟨Ku.gh (fun i hi => by rcases hi with h | h | h <;> subst h <;> rfl) (fun _ => rfl) (fun _ => rfl) ⟨?_, ?_⟩ (fun _ _ => Nat.le_add_right _ _), e1, e2, rfl, rfl⟩
  · rw [e1, e2]
    show sg y + 2 * sd y + (itl y).length ≤ sg y + r + 2 * (sd y + d) + (itl y).length + 0
    omega
  · rw [e1]
    show sg y + (itl y).length + (apl y).length ≤ sg y + r + (itl y).length + (apl y).length + 0
    omega
/-- a variable that stands in a place -/
theorem var_at {s : aS} {y : aG} {c a e z : Nat} (hI : Inv s y c) (hz : Cx y c e z) (ha : Fi s y a e z) (h3 : srt s a = 3) : Cx y c (lev s a) (zn y a) ∧ (ih y z = 1 → ih y (zn y a) = 1) ∧ nv y a ≠ 0 := by
  have hzc := hI.1.2.2.1.1
  have hnv : nv y a ≠ 0 := by
    obtain ⟨-, hh | hh | hh | hh⟩ := (hI.2 a ha.1).1
    · omega
    · omega
    · omega
    · have := hh.2.2.2.1.1
      omega
  refine ⟨ha.cx hzc hz hnv, fun h => ?_, hnv⟩
  rcases Nat.lt_or_ge (lev s a) e with h1 | h1
  · exact (ha.2.2.2 h1).2.resolve_left hnv
  · have h2 : lev s a = e := by have := ha.2.1; omega
    have h4 := ha.2.2.1.resolve_left hnv
    rw [h2, hz.self hzc] at h4
    rw [← Option.some.inj h4]
    exact h
theorem un_hi {f : aS → Nat → Nat → aS} {s : aS} {y : aG} {c a b e z : Nat} (hf : UnF f c) (hI : Inv s y c) (hM : sM y < stp s) (hA : (a, b) ∈ s.2.2) (hm : b ∉ oh y a) (hz : Cx y c e z) (ha : Fi s y a e z) (hb : Fi s y b e z) (hn : ng y b = 1) (hi : ih y z = 1 ∨ srt s b = 0) (h3 : srt s a = 3) (hl : lev s b ≤ lev s a) :
    ∃ y', Inv ((row s 0 a).foldl (fun s x => f s x b) (bind s a 1 b)) y' c ∧ Ex s y ((row s 0 a).foldl (fun s x => f s x b) (bind s a 1 b)) y' ∧ Ku s y ((row s 0 a).foldl (fun s x => f s x b) (bind s a 1 b)) y' 0 0 0 b := by
  obtain ⟨v1, v2, v3⟩ := var_at hI hz ha h3
  have hzc := hI.1.2.2.1.1
  have hbd : Fi s y b (lev s a) (zn y a) := hb.down hzc hz v1 hl ha.2.1
  obtain ⟨y1, i1, i2, i3, i4, i5, i6, i7⟩ : ∃ y1, Inv s y1 c ∧ Ex s y s y1 ∧ Ku s y s y1 0 0 0 b ∧ (nt y1 a = 1 ∨ srt s b = 0) ∧ xl y1 a + xh y1 a + sw y1 + 1 ≤ sM y1 + nf y1 a ∧ sO y1 + 1 ≤ sM y1 ∧ b ∉ oh y1 a := by
    have hV := (hI.2 a ha.1).2 h3
    have hB := hV.2.1.1
    have hO := hI.1.2.2.2.2.2.1.2.2
    by_cases hc : nt y a = 1 ∨ srt s b = 0
    · obtain ⟨p1, p2⟩ := i_pay hI hM
      refine ⟨pay y, p1, p2, ku_pay, hc, ?_, ?_, hm⟩
      · show xl y a + xh y a + sw y + 1 ≤ sM y + 1 + nf y a
        omega
      · show sO y + 1 ≤ sM y + 1
        omega
    · have hnt : nt y a = 0 := by
        have := hV.2.2.2.1.2.1
        have : ¬ nt y a = 1 := fun h => hc (Or.inl h)
        omega
      have hib : ih y (zn y a) = 1 := v2 (hi.resolve_right (fun h => hc (Or.inr h)))
      obtain ⟨q1, q2⟩ := i_ntb hI ha.1 h3 hnt v1 hib
      obtain ⟨p1, p2⟩ := i_pay q1 (show sM (ntb y a) < stp s from hM)
      refine ⟨pay (ntb y a), p1, q2.tr p2, (ku_ntb (b := b)).tr (ku_pay (b := b)) q2, Or.inl ?_, ?_, ?_, hm⟩
      · simp [nt, pay, ntb, h1, mst]
      · show xl y a + xh y a + sw y + 1 ≤ sM y + 1 + nf y a
        omega
      · show sO y + 1 ≤ sM y + 1
        omega
  have hzl : zn y a < sZ y := zlt hI.1 v1
  have hbd1 : Fi s y1 b (lev s a) (zn y1 a) := by
    rw [(i2.2.2.2.1 a ha.1).1]
    exact hbd.ext hzl i2
  have hn1 : ng y1 b = 1 := by
    rw [(i2.2.2.2.1 b hb.1).2.2.2.2.2.1]
    exact hn
  obtain ⟨y2, j1, j2, j3⟩ : ∃ y2, Inv (bind s a 1 b) y2 c ∧ Ex s y (bind s a 1 b) y2 ∧ Ku s y (bind s a 1 b) y2 0 0 0 b := by
    by_cases hfr : srt s b = 3 ∨ srt s b = 0
    · obtain ⟨j1, j2⟩ := i_bhf i1 hbd1 hn1 hfr i4 hA i7 i5 i6
      refine ⟨ybhf y1 a b, j1, i2.tr j2, i3.tr (Ku.to (Ku.gh (s := s) (r := 0) (q := 0) (v := 0) (b := b) (fun i hi => by rcases hi with h | h | h <;> subst h <;> rfl) (fun _ => rfl) (fun _ => rfl) ⟨Nat.le_refl _, Nat.le_refl _⟩ (fun _ _ => Nat.le_add_right _ _)) ⟨rfl, rfl, rfl⟩) i2⟩
    · have hnf : ¬ (srt s b = 3 ∨ srt s b = 0 ∨ rm y1 b = 1) := fun h => by
        obtain ⟨-, hh | hh | hh | hh⟩ := (i1.2 b hb.1).1
        · exact hfr (Or.inr hh.1)
        · have := hh.2.2.2.2.2.1
          omega
        · have := (hh.2.2.2.2.2 hn1).2
          omega
        · exact hfr (Or.inl hh.1)
      obtain ⟨j1, j2⟩ := i_bn (side := 1) i1 (by omega) hbd1 (fun h => by omega) (fun _ => hn1) hnf i6
      refine ⟨ybn y1, j1, i2.tr j2, i3.tr (Ku.to (Ku.gh (s := s) (r := 0) (q := 0) (v := 0) (b := b) (fun i hi => by rcases hi with h | h | h <;> subst h <;> rfl) (fun _ => rfl) (fun _ => rfl) ⟨Nat.le_refl _, Nat.le_refl _⟩ (fun _ _ => Nat.le_add_right _ _)) ⟨rfl, rfl, rfl⟩) i2⟩
  have hrow := ((hI.2 a ha.1).1.rows h3).1
  obtain ⟨y3, k1, k2, k3⟩ := fold_lo (e := lev s a) (z := zn y a) (b := b) hf (row s 0 a) (bind s a 1 b) y2 j1 (j3.cx v1) (hbd.ext hzl j2) (by rw [(j2.2.2.2.1 b hb.1).2.2.2.2.2.1]; exact hn) (by rw [j3.1.2.2.2.1, (j2.2.1 b hb.1).1]; exact hi.imp v2 id) (fun x hx => by
    obtain ⟨x1, x2, x3⟩ := hrow x hx
    obtain ⟨-, -, -, q4, q5, -, q7⟩ := j2.2.2.2.1 x x1.1
    rw [q4, q5]
    exact ⟨x1.ext hzl j2, x2, fun h => q7 (x3 h)⟩)
  exact ⟨y3, k1, j2.tr k2, j3.tr k3 j2⟩
