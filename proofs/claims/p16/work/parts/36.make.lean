/-! ===== new types ===== -/
/-- a variable that is not touched -/
theorem Vok.ext2 {s s' : aS} {y y' : aG} {c t : Nat} (h : Vok s y c t) (hT : Typ s y t) (ht : t < nT s) (h3 : srt s t = 3) (hE : Ex s y s' y')
    (hr : row s' 0 t = row s 0 t ∧ row s' 1 t = row s 1 t)
    (hc : xl y' t = xl y t ∧ xh y' t = xh y t ∧ kl y' t = kl y t ∧ kh y' t = kh y t ∧ nf y' t = nf y t ∧ fq y' t = fq y t ∧ kk y' t = kk y t ∧ nt y' t = nt y t ∧ ln y' t = ln y t ∧ ol y' t = ol y t ∧ oh y' t = oh y t)
    (hw : sM y + sw y' ≤ sM y' + sw y) (hP : (itl y).length ≤ (itl y').length) (hf : (frl y).length ≤ (frl y').length)
    (hA : ∀ q ∈ s.2.2, q ∈ s'.2.2) (hD : sD y ≤ sD y' ∧ sU y ≤ sU y')
    {c' : Nat} (hZ : (Cx y' c' (lev s t) (zn y t) → kk y t + ci y' ((pth y' c').take (lev s t)) + (if nt y t = 0 ∧ ih y' (zn y t) = 1 then 1 else 0) ≤ sF y') ∧ (¬ Cx y' c' (lev s t) (zn y t) → kk y t + ci y' (pth y' c') ≤ sF y')) : Vok s' y' c' t := by
  obtain ⟨⟨a1, a2⟩, ⟨b1, b2⟩, c1, ⟨d1, d2, d3, d4, d5, d6⟩, ⟨e1, e2⟩, ⟨f1, f2⟩, g, ⟨i1, i2⟩, j1, j2⟩ := h
  obtain ⟨r0, r1⟩ := hT.rows h3
  obtain ⟨u1, u2, u3, u4, u5, u6, u7, u8, u9, u10, u11⟩ := hc
  obtain ⟨⟨x1, x2, -, -, -⟩, b, -, d, -, -⟩ := hE
  have hPP : PP s y ≤ PP s' y' := by
    unfold PP
    omega
  unfold Vok
  rw [hr.1, hr.2, u1, u2, u3, u4, u5, u6, u7, u8, u9, u10, u11, (b t ht).2.1, (d t ht).1,
    fc.ext (fun x hx => ⟨(b x (r0 x hx).1.1).1, (d x (r0 x hx).1.1).2.2.2.1⟩), fc.ext (fun x hx => ⟨(b x (r1 x hx).1.1).1, (d x (r1 x hx).1.1).2.2.2.1⟩)]
  refine ⟨⟨a1, a2⟩, ⟨by omega, b2⟩, c1, ⟨?_, d2, d3, d4, d5, by omega⟩, ⟨e1, fun x hx => ?_⟩, ⟨f1, fun x hx => ?_⟩, fun h0 => ?_, ⟨by omega, by omega⟩, hZ.1, hZ.2⟩
  · have := Nat.mul_le_mul_left (kk y t - nt y t) hPP
    omega
  · obtain ⟨h4, h5, h6⟩ := e2 x hx
    refine ⟨hA _ h4, by omega, ?_⟩
    rw [(b x h5).1]
    exact h6.imp id (Or.imp id ((d x h5).2.2.2.2.2.2))
  · obtain ⟨h4, h5, h6⟩ := f2 x hx
    refine ⟨hA _ h4, by omega, ?_⟩
    rw [(b x h5).1]
    exact h6
  · obtain ⟨h4, h5⟩ := g h0
    refine ⟨h4, fun x hx => ?_⟩
    rw [(b x (f2 x hx).2.1).1]
    exact h5 x hx
/-- the numbers of a new type t -/
def ynew (y : aG) (t z n a r p q : Nat) : aG := h1 (h1 (h1 (h1 (h1 (h1 y 0 t z) 1 t n) 2 t a) 3 t r) 4 t p) 5 t q
theorem ynew_at (y : aG) (t z n a r p q x : Nat) : zn (ynew y t z n a r p q) x = (if x = t then z else zn y x) ∧ nv (ynew y t z n a r p q) x = (if x = t then n else nv y x) ∧ ar (ynew y t z n a r p q) x = (if x = t then a else ar y x) ∧ rm (ynew y t z n a r p q) x = (if x = t then r else rm y x) ∧ ps (ynew y t z n a r p q) x = (if x = t then p else ps y x) ∧ ng (ynew y t z n a r p q) x = (if x = t then q else ng y x) := by
  refine ⟨?_, ?_, ?_, ?_, ?_, ?_⟩
  · simp [zn, ynew, h1, mst]
  · simp [nv, ynew, h1, mst]
  · simp [ar, ynew, h1, mst]
  · simp [rm, ynew, h1, mst]
  · simp [ps, ynew, h1, mst]
  · simp [ng, ynew, h1, mst]
theorem glo_new {s s' : aS} {y y' : aG} {c : Nat} (h : Glo s y c) (hn : nT s' = nT s + 1 ∧ nT s + 1 ≤ 602 ∧ nV s' = nV s ∧ stp s' = stp s ∧ bnd s' = bnd s ∧ s'.1 6 = s.1 6) (ho : ∀ x, x < nT s → srt s' x = srt s x ∧ one s' x = one s x) (hy : ∀ f, 6 ≤ f → y'.1 f = y.1 f) (h2 : y'.2 = y.2) : Glo s' y' c := by
  obtain ⟨g1, g2, ⟨g3, g3a, g3b, g3c⟩, g4, g5, ⟨g11, g12, g13⟩, ⟨g14, g14b⟩, g15, g16⟩ := h
  obtain ⟨a1, a2, a3, a4, a5, a6⟩ := hn
  have q20 := hy 20 (by omega)
  have q15 := hy 15 (by omega)
  have q6 := hy 6 (by omega)
  have hp : ∀ z, pth y' z = pth y z := fun z => by unfold pth; rw [h2]
  have hi : ∀ z, ih y' z = ih y z := fun z => by unfold ih; rw [q15]
  have hci : ∀ l, ci y' l = ci y l := fun l => ci.ext hi
  unfold Glo
  unfold sN sF sK sU sD sg sd sA sw sM sO sL sZ itl apl frl it at *
  rw [q20, h2, a3, a4, a5, q6, hp c, hci]
  refine ⟨⟨by omega, by omega, g1.2.2.1, by omega⟩, fun v hv => ?_, ⟨?_, g3a, fun z hz => ?_, fun z hz => ?_⟩, g4, g5, ⟨g11, g12, g13⟩, ⟨g14, g14b⟩, g15, g16⟩
  · obtain ⟨p1, p2, p3⟩ := g2 v hv
    rw [a6]
    obtain ⟨r1, r2⟩ := ho _ p1
    exact ⟨by omega, r1.trans p2, r2.trans p3⟩
  · unfold Zok
    rw [hp]
    exact ⟨g3.1, fun d z' hd => (hp z').trans (g3.2 d z' hd)⟩
  · rw [hp]
    exact g3b z hz
  · rw [hi]
    exact g3c z hz
theorem ex_new {s s' : aS} {y : aG} {z n a r p q : Nat} (hn : nT s' = nT s + 1 ∧ nV s' = nV s ∧ s'.1 6 = s.1 6) (ho : ∀ x, x < nT s → srt s' x = srt s x ∧ lev s' x = lev s x ∧ one s' x = one s x ∧ two s' x = two s x ∧ parts s' x = parts s x ∧ labs s' x = labs s x) : Ex s y s' (ynew y (nT s) z n a r p q) := by
  refine ⟨⟨by omega, by omega, Nat.le_refl _, fun _ h => h, fun _ h => Or.inl h⟩, ho, fun v _ => by rw [hn.2.2], fun x hx => ?_, fun _ _ => rfl, fun _ h => h⟩
  obtain ⟨e1, e2, e3, e4, e5, e6⟩ := ynew_at y (nT s) z n a r p q x
  rw [e1, e2, e3, e4, e5, e6]
  have hne : x ≠ nT s := by omega
  simp only [if_neg hne]
  exact ⟨trivial, trivial, trivial, trivial, trivial, trivial, id⟩
/-- all that was there still holds beside a new type -/
theorem i_new {s s' : aS} {y : aG} {c z n a r p q : Nat} (hI : Inv s y c) (hn : nT s' = nT s + 1 ∧ nT s + 1 ≤ 602 ∧ nV s' = nV s ∧ stp s' = stp s ∧ bnd s' = bnd s ∧ s'.1 6 = s.1 6)
    (ho : ∀ x, x < nT s → srt s' x = srt s x ∧ lev s' x = lev s x ∧ one s' x = one s x ∧ two s' x = two s x ∧ parts s' x = parts s x ∧ labs s' x = labs s x) (hr : ∀ g, g ≤ 1 → row s' g = row s g) (hA : s'.2.2 = s.2.2)
    (ht : Typ s' (ynew y (nT s) z n a r p q) (nT s)) (h3 : srt s' (nT s) ≠ 3) : Inv s' (ynew y (nT s) z n a r p q) c := by
  have hE : Ex s y s' (ynew y (nT s) z n a r p q) := ex_new ⟨hn.1, hn.2.2.1, hn.2.2.2.2.2⟩ ho
  obtain ⟨hG, hT⟩ := hI
  refine ⟨glo_new hG hn (fun x hx => ⟨(ho x hx).1, (ho x hx).2.2.1⟩) (fun f hf => ?_) rfl, fun t htt => ?_⟩
  · funext j
    simp [ynew, h1, mst, show f ≠ 0 by omega, show f ≠ 1 by omega, show f ≠ 2 by omega, show f ≠ 3 by omega, show f ≠ 4 by omega, show f ≠ 5 by omega]
  · by_cases e : t = nT s
    · rw [e]
      exact ⟨ht, fun h => absurd h h3⟩
    · have hlt : t < nT s := by omega
      obtain ⟨k1, k2⟩ := hT t hlt
      have hr0 : row s' 0 t = row s 0 t := by rw [hr 0 (by omega)]
      have hr1 : row s' 1 t = row s 1 t := by rw [hr 1 (by omega)]
      refine ⟨k1.ext hlt hE hG.2.2.1.2.2.1 (fun _ x hx => Or.inl (by rw [← hr0]; exact hx)) (fun _ x hx => Or.inl (by rw [← hr1]; exact hx)), fun h => ?_⟩
      rw [(ho t hlt).1] at h
      exact Vok.ext (k2 h) k1 hlt h hE ⟨hr0, hr1⟩ ⟨rfl, rfl, rfl, rfl, rfl, rfl, rfl, rfl, rfl, rfl, rfl⟩ (Nat.le_refl _) (Nat.le_refl _) (Nat.le_refl _) (fun q hq => by rw [hA]; exact hq) ⟨Nat.le_refl _, Nat.le_refl _⟩ ⟨rfl, fun _ => rfl, rfl⟩
