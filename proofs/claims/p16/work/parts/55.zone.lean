/-! ===== zones open and close; small things of TYPING ===== -/
/-- a change of numbers that nobody looks at -/
theorem i_num {s s' : aS} {y : aG} {c : Nat} (hI : Inv s y c) (h : s'.2 = s.2 ∧ nT s' = nT s ∧ nV s' = nV s ∧ stp s' = stp s ∧ bnd s' = bnd s ∧ s'.1 1 = s.1 1 ∧ s'.1 2 = s.1 2 ∧ s'.1 3 = s.1 3 ∧ s'.1 4 = s.1 4 ∧ s'.1 6 = s.1 6) : Inv s' y c ∧ Ex s y s' y := by
  obtain ⟨a1, a2, a3, a4, a5, a6, a7, a8, a9, a10⟩ := h
  have hE : Ex s y s' y := by
    refine ⟨⟨by omega, by omega, Nat.le_refl _, fun _ h => h, fun _ h => Or.inl h⟩, fun x _ => ?_, fun v _ => by rw [a10], fun _ _ => ⟨rfl, rfl, rfl, rfl, rfl, rfl, id⟩, fun _ _ => rfl, fun _ h => h⟩
    unfold srt lev one two parts labs
    rw [a1, a6, a7, a8, a9]
    exact ⟨rfl, rfl, rfl, rfl, rfl, rfl⟩
  obtain ⟨hG, hT⟩ := hI
  have hr : ∀ g t, row s' g t = row s g t := fun g t => by unfold row; rw [a1]
  refine ⟨⟨?_, fun t ht => ?_⟩, hE⟩
  · exact glo_ext hG ⟨a2, a3, a4, a6, a8, a10⟩ hG.1.2.2.2 ⟨rfl, fun _ => rfl, fun _ => rfl⟩ hG.2.2.2.2.1 ⟨rfl, rfl, rfl, rfl, rfl, rfl⟩ ⟨hG.2.2.2.2.2.1.1, hG.2.2.2.2.2.1.2.2⟩ (by rw [a5]; exact glo_at hG) (Nat.le_refl _) (Nat.le_refl _)
  · have ht' : t < nT s := by omega
    obtain ⟨k1, k2⟩ := hT t ht'
    have h3' : srt s' t = srt s t := (hE.2.1 t ht').1
    exact ⟨k1.ext ht' hE hG.2.2.1.2.2.1 (fun _ x hx => Or.inl (by rw [← hr]; exact hx)) (fun _ x hx => Or.inl (by rw [← hr]; exact hx)), fun h3 => Vok.ext (k2 (by rw [← h3']; exact h3)) k1 ht' (by rw [← h3']; exact h3) hE ⟨hr 0 t, hr 1 t⟩ ⟨rfl, rfl, rfl, rfl, rfl, rfl, rfl, rfl, rfl, rfl, rfl⟩ (Nat.le_refl _) (Nat.le_refl _) (Nat.le_refl _) (fun _ h => by rw [a1]; exact h) ⟨Nat.le_refl _, Nat.le_refl _⟩ ⟨rfl, fun _ => rfl, rfl⟩⟩
theorem i_askn {s : aS} {y : aG} {c n : Nat} (hI : Inv s y c) : Inv (w1 s 0 5 n) y c ∧ Ex s y (w1 s 0 5 n) y := i_num hI ⟨rfl, rfl, rfl, rfl, rfl, rfl, rfl, rfl, rfl, rfl⟩
theorem i_give {s : aS} {y : aG} {c n t sc : Nat} (hI : Inv s y c) : Inv (gives s n t sc) y c ∧ Ex s y (gives s n t sc) y := i_num hI ⟨rfl, rfl, rfl, rfl, rfl, rfl, rfl, rfl, rfl, rfl⟩
theorem i_sch {s : aS} {y : aG} {c n v : Nat} (hI : Inv s y c) : Inv (w1 s 9 n v) y c ∧ Ex s y (w1 s 9 n v) y := i_num hI ⟨rfl, rfl, rfl, rfl, rfl, rfl, rfl, rfl, rfl, rfl⟩
/-- a LET's or REC's first part begins -/
def yop (y : aG) (c : Nat) : aG := h1 (h2 y 2 (sZ y) (pth y c ++ [sZ y])) 20 11 (sZ y + 1)
theorem i_open {s : aS} {y : aG} {c : Nat} (hI : Inv s y c) : Inv s (yop y c) (sZ y) ∧ Ex s y s (yop y c) ∧ pth (yop y c) (sZ y) = pth y c ++ [sZ y] ∧ (∀ z, z < sZ y → pth (yop y c) z = pth y z) ∧ (∀ z, ih (yop y c) z = ih y z) ∧ ih y (sZ y) = 0 := by
  have e_p : ∀ z, pth (yop y c) z = if z = sZ y then pth y c ++ [sZ y] else pth y z := fun z => by simp [pth, yop, h1, h2, lst, sZ]
  have e_20 : ∀ i, i ≠ 11 → (yop y c).1 20 i = y.1 20 i := fun i hi => by simp [yop, h1, h2, mst, hi]
  have e_Z : sZ (yop y c) = sZ y + 1 := by simp [sZ, yop, h1, h2, mst]
  have e_pl : ∀ z, z < sZ y → pth (yop y c) z = pth y z := fun z hz => by rw [e_p, if_neg (by omega)]
  have e_pn : pth (yop y c) (sZ y) = pth y c ++ [sZ y] := by rw [e_p, if_pos rfl]
  have hE : Ex s y s (yop y c) := ⟨⟨Nat.le_refl _, Nat.le_refl _, by omega, fun _ h => h, fun _ h => Or.inl h⟩, fun _ _ => ⟨rfl, rfl, rfl, rfl, rfl, rfl⟩, fun _ _ => rfl, fun _ _ => ⟨rfl, rfl, rfl, rfl, rfl, rfl, id⟩, e_pl, fun _ h => h⟩
  obtain ⟨hG, hT⟩ := hI
  have hG0 := hG
  obtain ⟨g1, g2, ⟨g3, g3a, g3b, g3c⟩, ⟨g4, g4b, g4c⟩, g5, g6, g7, g8, g9⟩ := hG
  have hlen : (pth y c).length ≥ 1 := by
    obtain ⟨h5, -⟩ := List.getElem?_eq_some_iff.mp g3.1
    omega
  have hci : ci (yop y c) (pth (yop y c) (sZ y)) = ci y (pth y c) := by
    rw [e_pn, ci_app, ci_one]
    show ci y (pth y c) + (if ih y (sZ y) = 1 then 1 else 0) = _
    rw [if_neg (by rw [g3c _ (Nat.le_refl _)]; omega)]
    rfl
  have hzok : Zok (yop y c) (sZ y) := by
    unfold Zok
    rw [e_pn]
    refine ⟨by rw [List.length_append, List.length_singleton, Nat.add_sub_cancel, List.getElem?_append_right (Nat.le_refl _), Nat.sub_self]; rfl, fun d z' hd => ?_⟩
    rcases Nat.lt_or_ge d (pth y c).length with h | h
    · rw [List.getElem?_append_left h] at hd
      rw [e_pl z' (g3b c g3a z' (List.mem_of_getElem? hd)), g3.2 d z' hd, List.take_append_of_le_length (by omega)]
    · have hd2 : d < (pth y c).length + 1 := by
        obtain ⟨h5, -⟩ := List.getElem?_eq_some_iff.mp hd
        rw [List.length_append, List.length_singleton] at h5
        exact h5
      have hd3 : d = (pth y c).length := by omega
      subst hd3
      rw [List.getElem?_append_right (Nat.le_refl _), Nat.sub_self] at hd
      have hz' : sZ y = z' := Option.some.inj hd
      rw [← hz', e_pn, List.take_of_length_le (by rw [List.length_append, List.length_singleton]; omega)]
  have hG' : Glo s (yop y c) (sZ y) := by
    unfold Glo
    rw [hci]
    unfold sN sF sK sU sD sg sd sA sw sM sO sL itl apl frl it at *
    rw [e_Z, e_20 0 (by omega), e_20 1 (by omega), e_20 2 (by omega), e_20 3 (by omega), e_20 4 (by omega), e_20 5 (by omega), e_20 6 (by omega), e_20 7 (by omega), e_20 8 (by omega), e_20 9 (by omega), e_20 10 (by omega), e_20 12 (by omega)]
    refine ⟨g1, g2, ⟨hzok, by omega, fun z hz z' hz' => ?_, fun z hz => g3c z (by omega)⟩, ⟨g4, g4b, g4c⟩, g5, g6, g7, g8, g9⟩
    by_cases h : z = sZ y
    · rw [h, e_pn] at hz'
      rcases List.mem_append.mp hz' with h5 | h5
      · have := g3b c g3a z' h5
        omega
      · have := List.mem_singleton.mp h5
        omega
    · rw [e_pl z (by omega)] at hz'
      have := g3b z (by omega) z' hz'
      omega
  refine ⟨⟨hG', fun t ht => ?_⟩, hE, e_pn, e_pl, fun _ => rfl, g3c _ (Nat.le_refl _)⟩
  obtain ⟨k1, k2⟩ := hT t ht
  refine ⟨k1.ext ht hE g3b (fun _ x hx => Or.inl hx) (fun _ x hx => Or.inl hx), fun h3 => ?_⟩
  obtain ⟨-, -, -, -, -, -, -, -, j1, j2⟩ := k2 h3
  have hw : sM y + sw (yop y c) ≤ sM (yop y c) + sw y := by
    unfold sM sw
    rw [e_20 4 (by omega), e_20 12 (by omega)]
    exact Nat.le_refl _
  have hD : sD y ≤ sD (yop y c) ∧ sU y ≤ sU (yop y c) := by
    unfold sD sU
    rw [e_20 3 (by omega), e_20 2 (by omega)]
    exact ⟨Nat.le_refl _, Nat.le_refl _⟩
  have eF : sF (yop y c) = sF y := e_20 0 (by omega)
  have hcxi : Cx (yop y c) (sZ y) (lev s t) (zn y t) ↔ Cx y c (lev s t) (zn y t) := by
    unfold Cx
    rw [e_pn]
    rcases Nat.lt_or_ge (lev s t) (pth y c).length with h | h
    · rw [List.getElem?_append_left h]
    · rw [List.getElem?_append_right h, List.getElem?_eq_none h]
      constructor
      · intro h5
        have h6 := List.mem_singleton.mp (List.mem_of_getElem? h5)
        have := k1.1.1
        omega
      · intro h5
        exact absurd h5 (by simp)
  refine Vok.ext2 (k2 h3) k1 ht h3 hE ⟨rfl, rfl⟩ ⟨rfl, rfl, rfl, rfl, rfl, rfl, rfl, rfl, rfl, rfl, rfl⟩ hw (Nat.le_refl _) (Nat.le_refl _) (fun _ h => h) hD ⟨fun h => ?_, fun h => ?_⟩
  · have h5 := hcxi.mp h
    have hlt : lev s t < (pth y c).length := by
      obtain ⟨h6, -⟩ := List.getElem?_eq_some_iff.mp h5
      exact h6
    rw [eF, e_pn, List.take_append_of_le_length (by omega)]
    exact j1 h5
  · rw [eF, hci]
    exact j2 (fun h5 => h (hcxi.mpr h5))
/-- it ends -/
theorem i_close {s : aS} {y : aG} {c c' : Nat} (hI : Inv s y c') (hp : pth y c' = pth y c ++ [c']) (hc : Zok y c) (hcl : c < sZ y) : Inv s y c := by
  obtain ⟨hG, hT⟩ := hI
  obtain ⟨g1, g2, ⟨g3, g3a, g3b, g3c⟩, ⟨g4, g4b, g4c⟩, g5⟩ := hG
  have hle : ci y (pth y c) ≤ ci y (pth y c') := by
    rw [hp, ci_app]
    exact Nat.le_add_right _ _
  refine ⟨⟨g1, g2, ⟨hc, hcl, g3b, g3c⟩, ⟨by omega, g4b, g4c⟩, g5⟩, fun t ht => ?_⟩
  obtain ⟨k1, k2⟩ := hT t ht
  refine ⟨k1, fun h3 => ?_⟩
  obtain ⟨a, b, cc, d, e, f, g, i, j1, j2⟩ := k2 h3
  refine ⟨a, b, cc, d, e, f, g, i, fun h => ?_, fun h => ?_⟩
  · have hlt : lev s t < (pth y c).length := by
      obtain ⟨h6, -⟩ := List.getElem?_eq_some_iff.mp h
      exact h6
    have := j1 (by
      unfold Cx at h ⊢
      rw [hp, List.getElem?_append_left hlt]
      exact h)
    rw [hp, List.take_append_of_le_length (by omega)] at this
    exact this
  · by_cases h5 : Cx y c' (lev s t) (zn y t)
    · have h6 := j1 h5
      have hge : (pth y c).length ≤ lev s t := by
        rcases Nat.lt_or_ge (lev s t) (pth y c).length with h7 | h7
        · exfalso
          apply h
          unfold Cx at h5 ⊢
          rw [hp, List.getElem?_append_left h7] at h5
          exact h5
        · exact h7
      have h8 : ci y (pth y c) ≤ ci y ((pth y c').take (lev s t)) := by
        rw [hp, List.take_append, List.take_of_length_le hge, ci_app]
        exact Nat.le_add_right _ _
      omega
    · have := j2 h5
      omega
