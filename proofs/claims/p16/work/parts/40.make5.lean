theorem pth_split {y : aG} {c l : Nat} (hc : Zok y c) (hz : Cx y c l c) : pth y c = (pth y c).take l ++ [c] ∧ c ∉ (pth y c).take l ∧ (pth y c).length = l + 1 := by
  have h1 := hc.2 l c hz
  have hl := (hz.len hc).2.1
  have h2 : (pth y c).length = l + 1 := (hz.len hc).2.2
  refine ⟨?_, fun h => ?_, h2⟩
  · have h3 : (pth y c).take (l + 1) = (pth y c).take l ++ [c] := by
      rw [List.take_succ]
      unfold Cx at hz
      rw [hz]
      rfl
    rw [← h3]
    exact h1
  · obtain ⟨d, hd, e⟩ := List.mem_iff_getElem.mp h
    rw [List.length_take] at hd
    rw [List.getElem_take] at e
    have h4 : (pth y c)[d]? = some c := by
      rw [List.getElem?_eq_getElem (by omega), e]
    have h5 := congrArg List.length (hc.2 d c h4)
    rw [List.length_take] at h5
    omega
theorem ci_app {y : aG} {l m : List Nat} : ci y (l ++ m) = ci y l + ci y m := by
  unfold ci
  rw [List.countP_append]
theorem ci_one {y : aG} {z : Nat} : ci y [z] = if ih y z = 1 then 1 else 0 := by
  unfold ci
  rw [List.countP_cons, List.countP_nil, Nat.zero_add]
  by_cases h : ih y z = 1
  · rw [if_pos h, if_pos (by rw [h]; rfl)]
  · rw [if_neg h, if_neg (by rw [beq_iff_eq]; exact h)]
theorem ci_mem {y y' : aG} {l : List Nat} (h : ∀ z ∈ l, ih y' z = ih y z) : ci y' l = ci y l := by
  unfold ci
  apply List.countP_congr
  intro x hx
  rw [h x hx]
theorem ci_take {y : aG} {l : List Nat} {j k : Nat} (h : j ≤ k) : ci y (l.take j) ≤ ci y (l.take k) := by
  have h1 : l.take k = (l.take k).take j ++ (l.take k).drop j := (List.take_append_drop j (l.take k)).symm
  rw [h1, ci_app, List.take_take, Nat.min_eq_left h]
  exact Nat.le_add_right _ _
theorem ci_take_le {y : aG} {l : List Nat} {j : Nat} : ci y (l.take j) ≤ ci y l := by
  have h1 : l = l.take j ++ l.drop j := (List.take_append_drop j l).symm
  have h2 := ci_app (y := y) (l := l.take j) (m := l.drop j)
  rw [← h1] at h2
  omega
def yF (s : aS) (y : aG) (c : Nat) : aG := h1 (h1 (yV y (nT s) c 1 1 1 0 0 0 0 0 0) 15 c 1) 20 0 (sF y + 1)
theorem i_fresh {s : aS} {y : aG} {c l : Nat} (hI : Inv s y c) (hz : Cx y c l c) (hN : nT s ≠ 602) (hV : nV s ≠ 150) :
    Inv (newV s l) (yF s y c) c ∧ Ex s y (newV s l) (yF s y c) ∧ Fi (newV s l) (yF s y c) (nT s) l c ∧ ih (yF s y c) c = 1 ∧ nf (yF s y c) (nT s) = 0 ∧ sF (yF s y c) = sF y + 1 := by
  have hG := hI.1
  have hzc := hG.2.2.1.1
  obtain ⟨ps1, ps2, ps3⟩ := pth_split hzc hz
  have e_ih : ∀ z, ih (yF s y c) z = if z = c then 1 else ih y z := fun z => by simp [ih, yF, yV, ynew, h1, h2, mst]
  have e_p : ∀ z, pth (yF s y c) z = pth y z := fun z => by simp [pth, yF, yV, ynew, h1, h2, lst]
  have e_20 : ∀ i, (yF s y c).1 20 i = if i = 0 then sF y + 1 else y.1 20 i := fun i => by simp [yF, yV, ynew, h1, h2, mst]
  have e_6 : ∀ t, it (yF s y c) t = it y t := fun t => by simp [it, yF, yV, ynew, h1, h2, mst]
  have e_3 : ∀ i, (yF s y c).2 3 i = y.2 3 i := fun i => by simp [yF, yV, ynew, h1, h2, lst]
  have e_v : ∀ x, kk (yF s y c) x = (if x = nT s then 1 else kk y x) ∧ nt (yF s y c) x = (if x = nT s then 1 else nt y x) ∧ ln (yF s y c) x = (if x = nT s then 1 else ln y x) ∧ nf (yF s y c) x = (if x = nT s then 0 else nf y x) ∧ xl (yF s y c) x = (if x = nT s then 0 else xl y x) ∧ xh (yF s y c) x = (if x = nT s then 0 else xh y x) ∧ kl (yF s y c) x = (if x = nT s then 0 else kl y x) ∧ kh (yF s y c) x = (if x = nT s then 0 else kh y x) ∧ fq (yF s y c) x = (if x = nT s then 0 else fq y x) ∧ ol (yF s y c) x = (if x = nT s then [] else ol y x) ∧ oh (yF s y c) x = (if x = nT s then [] else oh y x) := fun x => yV_at y (nT s) c 1 1 1 0 0 0 0 0 0 x
  have e_w : ∀ x, zn (yF s y c) x = (if x = nT s then c else zn y x) ∧ nv (yF s y c) x = (if x = nT s then 1 else nv y x) ∧ ar (yF s y c) x = (if x = nT s then 1 else ar y x) ∧ rm (yF s y c) x = (if x = nT s then 0 else rm y x) ∧ ps (yF s y c) x = (if x = nT s then 1 else ps y x) ∧ ng (yF s y c) x = (if x = nT s then 1 else ng y x) := fun x => yV_at2 y (nT s) c 1 1 1 0 0 0 0 0 0 x
  have e_o : ∀ i, i ≠ 0 → (yF s y c).1 20 i = y.1 20 i := fun i hi => by rw [e_20, if_neg hi]
  have hci : ∀ k, k ≤ l → ci (yF s y c) ((pth y c).take k) = ci y ((pth y c).take k) := fun k hk => by
    apply ci_mem
    intro z hz2
    rw [e_ih, if_neg]
    intro h
    rw [h] at hz2
    exact ps2 ((List.take_subset_take_left _ hk) hz2)
  have hcl : ci (yF s y c) (pth y c) = ci y ((pth y c).take l) + 1 := by
    have h3 : ci (yF s y c) (pth y c) = ci (yF s y c) ((pth y c).take l ++ [c]) := by rw [← ps1]
    rw [h3, ci_app, hci l (Nat.le_refl _), ci_one, e_ih, if_pos rfl, if_pos rfl]
  have hcle : ci y ((pth y c).take l) ≤ ci y (pth y c) := ci_take_le
  have hZok : ∀ z, Zok y z → Zok (yF s y c) z := fun z hz => by
    unfold Zok
    rw [e_p z]
    exact ⟨hz.1, fun d z' hd => (e_p z').trans (hz.2 d z' hd)⟩
  have hcx : ∀ d z, Cx (yF s y c) c d z ↔ Cx y c d z := fun d z => by
    unfold Cx
    rw [e_p]
  have hE : Ex s y (newV s l) (yF s y c) := by
    refine ex_newV (c := c) hG (fun f hf x hx => ?_) (fun x h => by rw [e_6]; exact h) e_p (by show sZ y ≤ (yF s y c).1 20 11; rw [e_o 11 (by omega)]; exact Nat.le_refl _) (fun z h => by rw [e_ih]; split <;> first | rfl | exact h) (fun x h => by show x ∈ (yF s y c).2 3 2; rw [e_3]; exact h)
    obtain ⟨w1, w2, w3, w4, w5, w6⟩ := e_w x
    have hne : x ≠ nT s := by omega
    rw [if_neg hne] at w1 w2 w3 w4 w5 w6
    rcases (by omega : f = 0 ∨ f = 1 ∨ f = 2 ∨ f = 3 ∨ f = 4 ∨ f = 5) with h | h | h | h | h | h <;> subst h
    · exact w1
    · exact w2
    · exact w3
    · exact w4
    · exact w5
    · exact w6
  obtain ⟨g1, g2, ⟨g3, g3a, g3b, g3c⟩, ⟨g4, g4b, g4c⟩, g5, ⟨g11, g12, g13⟩, ⟨g14, g14b⟩, g15, g16⟩ := hG
  have hG' : Glo (newV s l) (yF s y c) c := by
    unfold Glo
    unfold sN sF sK sU sD sg sd sA sw sM sO sL sZ itl apl frl it at *
    rw [show (yF s y c).1 20 0 = y.1 20 0 + 1 from e_20 0, e_o 1 (by omega), e_o 2 (by omega), e_o 3 (by omega), e_o 4 (by omega), e_o 5 (by omega), e_o 6 (by omega), e_o 7 (by omega), e_o 8 (by omega), e_o 9 (by omega), e_o 10 (by omega), e_o 11 (by omega), e_o 12 (by omega), e_3 0, e_3 1, e_3 2, e_p c, hcl]
    refine ⟨⟨by show 2 ≤ nT s + 1; omega, by show nT s + 1 ≤ 602; omega, by show nV s + 1 ≤ 150; omega, by show y.1 20 9 + (nV s + 1) + 2 ≤ nT s + 1; omega⟩, fun v hv => ?_, ⟨hZok c g3, g3a, fun z hz => by rw [e_p]; exact g3b z hz, fun z hz => ?_⟩, ⟨by omega, by show nV s + 1 = _; omega, g4c⟩, ⟨fun t ht => g5.1 t (by rw [← e_6 t]; exact ht), g5.2.1, g5.2.2.1, by omega, g5.2.2.2.2⟩, ⟨g11, g12, g13⟩, ⟨g14, g14b⟩, g15, Fok.mono (by omega) (Nat.le_refl _) _ g16⟩
    · obtain ⟨-, -, -, -, p5, -⟩ := newV_at s l v
      rw [p5]
      have hv : v < nV s + 1 := hv
      by_cases h : v = nV s
      · rw [if_pos h]
        obtain ⟨p1, -, p3, -⟩ := newV_at s l (nT s)
        rw [if_pos rfl] at p1 p3
        exact ⟨Nat.lt_succ_self _, p1, by rw [p3, h]⟩
      · rw [if_neg h]
        obtain ⟨r1, r2, r3⟩ := g2 v (by omega)
        obtain ⟨p1, -, p3, -⟩ := newV_at s l (s.1 6 v)
        rw [if_neg (by omega)] at p1 p3
        exact ⟨by show s.1 6 v < nT s + 1; omega, p1.trans r2, p3.trans r3⟩
    · rw [e_ih, if_neg (by omega)]
      exact g3c z hz
  obtain ⟨w1, w2, w3, w4, w5, w6⟩ := e_w (nT s)
  rw [if_pos rfl] at w1 w2 w3 w4 w5 w6
  obtain ⟨hTy, hFi⟩ := typ_newV (z := c) hG' ((hcx l c).mpr hz) ⟨w1, w2, w3, w4, w5, w6⟩
  obtain ⟨v1, v2, v3, v4, v5, v6, v7, v8, v9, v10, v11⟩ := e_v (nT s)
  rw [if_pos rfl] at v1 v2 v3 v4 v5 v6 v7 v8 v9 v10 v11
  obtain ⟨p1, p2, p3, -, -, p6, p7, -, -⟩ := newV_at s l (nT s)
  rw [if_pos rfl] at p1 p2 p3 p6 p7
  have eF : sF (yF s y c) = sF y + 1 := by show (yF s y c).1 20 0 = _; rw [e_20, if_pos rfl]
  refine ⟨i_newV hI hE hG' hTy ?_ (fun t ht => ?_) ?_ ?_ ?_ ?_ (fun t ht h3 => ?_), hE, hFi, by rw [e_ih, if_pos rfl], v4, eF⟩
  · unfold Vok
    rw [v1, v2, v3, v4, v5, v6, v7, v8, v9, v10, v11, p6, p7, p2, w1, e_p, hcx, eF, hci l (Nat.le_refl _)]
    unfold sN sF sK sU sD sg sd sA sw sM sO sL sZ itl apl frl it at *
    rw [e_o 4 (by omega), e_o 12 (by omega), e_o 2 (by omega), e_o 3 (by omega), e_3 0]
    refine ⟨⟨Nat.le_refl _, Nat.le_refl _⟩, ⟨by omega, by omega⟩, Nat.le_refl _, ⟨Nat.zero_le _, Nat.le_refl _, Nat.le_refl _, Nat.le_refl _, Nat.le_refl _, by omega⟩, ⟨List.nodup_nil, fun x hx => absurd hx (by simp)⟩, ⟨List.nodup_nil, fun x hx => absurd hx (by simp)⟩, fun h => by omega, ⟨Nat.zero_le _, Nat.zero_le _⟩, fun _ => ?_, fun h => absurd hz h⟩
    rw [if_neg (by omega)]
    omega
  · obtain ⟨v1, v2, v3, v4, v5, v6, v7, v8, v9, v10, v11⟩ := e_v t
    have hne : t ≠ nT s := by omega
    rw [if_neg hne] at v1 v2 v3 v4 v5 v6 v7 v8 v9 v10 v11
    exact ⟨v5, v6, v7, v8, v4, v9, v1, v2, v3, v10, v11⟩
  · show y.1 20 12 + (yF s y c).1 20 4 ≤ (yF s y c).1 20 12 + y.1 20 4
    rw [e_o 4 (by omega), e_o 12 (by omega)]
    exact Nat.le_refl _
  · show (y.2 3 1).length ≤ ((yF s y c).2 3 1).length
    rw [e_3]
    exact Nat.le_refl _
  · show (y.2 3 0).length ≤ ((yF s y c).2 3 0).length
    rw [e_3]
    exact Nat.le_refl _
  · show y.1 20 3 ≤ (yF s y c).1 20 3 ∧ y.1 20 2 ≤ (yF s y c).1 20 2
    rw [e_o 3 (by omega), e_o 2 (by omega)]
    exact ⟨Nat.le_refl _, Nat.le_refl _⟩
  · obtain ⟨-, -, -, -, -, -, -, -, j1, j2⟩ := (hI.2 t ht).2 h3
    rw [hcx, eF, e_p]
    refine ⟨fun h => ?_, fun h => ?_⟩
    · have hlt := (h.len hzc).2.1
      have := j1 h
      rw [hci _ (by omega)]
      by_cases h5 : zn y t = c
      · have : (if nt y t = 0 ∧ ih (yF s y c) (zn y t) = 1 then 1 else 0) ≤ 1 := by split <;> omega
        omega
      · rw [e_ih, if_neg h5]
        omega
    · rw [hcl]
      have := j2 h
      omega
