/-! ===== UNDER ===== -/
/-- what asking leaves as it was; r, q: tokens that were given along, v: b may be a first one's -/
def Ku (s : aS) (y : aG) (s' : aS) (y' : aG) (r q v b : Nat) : Prop :=
  (sF y' = sF y ∧ sA y' = sA y ∧ sZ y' = sZ y ∧ (∀ z, ih y' z = ih y z) ∧ ∀ z, pth y' z = pth y z) ∧
  (sg y + 2 * sd y + (itl y').length ≤ sg y' + 2 * sd y' + (itl y).length + r ∧ sg y + (itl y').length + (apl y').length ≤ sg y' + (itl y).length + (apl y).length + q) ∧
  (∀ t, t < nT s → nf y' t ≤ nf y t + (if v = 1 ∧ t = b then 1 else 0)) ∧
  (askn s' = askn s ∧ s'.1 8 = s.1 8 ∧ s'.1 9 = s.1 9)
theorem Ku.rf {s : aS} {y : aG} {r q v b : Nat} : Ku s y s y r q v b := ⟨⟨rfl, rfl, rfl, fun _ => rfl, fun _ => rfl⟩, ⟨by omega, by omega⟩, fun _ _ => Nat.le_add_right _ _, ⟨rfl, rfl, rfl⟩⟩
theorem Ku.mono {s s' : aS} {y y' : aG} {r q r' q' v b : Nat} (h : Ku s y s' y' r q 0 b) (hr : r ≤ r') (hq : q ≤ q') (b' : Nat) : Ku s y s' y' r' q' v b' := by
  obtain ⟨a, ⟨b1, b2⟩, c, d⟩ := h
  refine ⟨a, ⟨by omega, by omega⟩, fun t ht => ?_, d⟩
  have := c t ht
  rw [if_neg (by omega)] at this
  exact Nat.le_trans this (Nat.le_add_right _ _)
theorem Ku.tr {s s1 s2 : aS} {y y1 y2 : aG} {r q r' q' v b b' : Nat} (h : Ku s y s1 y1 r q v b) (h' : Ku s1 y1 s2 y2 r' q' 0 b') (hE : Ex s y s1 y1) : Ku s y s2 y2 (r + r') (q + q') v b := by
  obtain ⟨⟨a1, a2, a3, a4, a5⟩, ⟨b1, b2⟩, c, d1, d2, d3⟩ := h
  obtain ⟨⟨a1', a2', a3', a4', a5'⟩, ⟨b1', b2'⟩, c', d1', d2', d3'⟩ := h'
  refine ⟨⟨a1'.trans a1, a2'.trans a2, a3'.trans a3, fun z => (a4' z).trans (a4 z), fun z => (a5' z).trans (a5 z)⟩, ⟨by omega, by omega⟩, fun t ht => ?_, d1'.trans d1, d2'.trans d2, d3'.trans d3⟩
  have h1 := c t ht
  have h2 := c' t (by have := hE.1.1; omega)
  rw [if_neg (by omega)] at h2
  omega
theorem Ku.kp {N q : Nat} {s s' : aS} {y y' : aG} {ab : Nat} {an : Prop} (h : Kp N q s y s' y' ab an) (hN : nT s ≤ N) (b : Nat) : Ku s y s' y' 0 0 0 b := by
  obtain ⟨⟨a1, a2, a3, a4, a5, a6, a7, a8⟩, ⟨b1, b2, b3, b4, b5⟩, ⟨c1, c2, c3, c4, c5⟩, d, -⟩ := h
  refine ⟨⟨a7, a6, a8, b4, b5⟩, ⟨by rw [b1, a4, a5]; omega, by rw [b1, b2, a4]; omega⟩, fun t ht => ?_, c3, c4, c5⟩
  rw [(d t (by omega)).2.2.2.2.2.2.1]
  exact Nat.le_add_right _ _
/-- the tokens that are given along -/
def Tk (s : aS) (y : aG) (a b r q v : Nat) : Prop := (srt s b = 3 → rm y a = 1 → it y a = 1 ∨ (r = 1 ∧ (q = 1 ∨ a ∈ apl y)) ∨ v = 1) ∧ ((itl y).length + r ≤ sg y + 2 * sd y ∧ (itl y).length + (apl y).length + q ≤ sg y + sA y) ∧ (r ≤ 1 ∧ q ≤ 1 ∧ v ≤ 1) ∧ (v = 1 → nf y b ≤ 1)
theorem Tk.zero {s : aS} {y : aG} {c a b : Nat} (hG : Glo s y c) (h : rm y a = 1 → it y a = 1) : Tk s y a b 0 0 0 := ⟨fun _ hr => Or.inl (h hr), ⟨hG.2.2.2.2.1.2.1, hG.2.2.2.2.1.2.2.1⟩, ⟨by omega, by omega, by omega⟩, fun h => by omega⟩
/-- one who asks as he should -/
def UnF (f : aS → Nat → Nat → aS) (c : Nat) : Prop :=
  (∀ s a b, sto s ≠ 0 → f s a b = s) ∧ ∀ (s : aS) (y : aG) (a b e z r q v : Nat), Inv s y c → Cx y c e z → Fi s y a e z → Fi s y b e z → ps y a = 1 → ng y b = 1 → (ih y z = 1 ∨ srt s b = 0) → Tk s y a b r q v → ∃ y', Inv (f s a b) y' c ∧ Ex s y (f s a b) y' ∧ Ku s y (f s a b) y' r q v b
theorem Ku.cx {s s' : aS} {y y' : aG} {r q v b c e z : Nat} (h : Ku s y s' y' r q v b) (hz : Cx y c e z) : Cx y' c e z := by
  unfold Cx
  rw [h.1.2.2.2.2]
  exact hz
theorem fold_lo {f : aS → Nat → Nat → aS} {c e z b : Nat} (hf : UnF f c) : ∀ (l : List Nat) (s : aS) (y : aG), Inv s y c → Cx y c e z → Fi s y b e z → ng y b = 1 → (ih y z = 1 ∨ srt s b = 0) → (∀ x ∈ l, Fi s y x e z ∧ ps y x = 1 ∧ (rm y x = 1 → it y x = 1)) →
    ∃ y', Inv (l.foldl (fun s x => f s x b) s) y' c ∧ Ex s y (l.foldl (fun s x => f s x b) s) y' ∧ Ku s y (l.foldl (fun s x => f s x b) s) y' 0 0 0 b
  | [], s, y, hI, _, _, _, _, _ => ⟨y, hI, Ex.rf, Ku.rf⟩
  | x :: l, s, y, hI, hz, hb, hn, hi, hl => by
    obtain ⟨x1, x2, x3⟩ := hl x (by simp)
    obtain ⟨y1, i1, i2, i3⟩ := hf.2 s y x b e z 0 0 0 hI hz x1 hb x2 hn hi (Tk.zero hI.1 x3)
    have hzl := zlt hI.1 hz
    have hng : ng y1 b = 1 := by rw [(i2.2.2.2.1 b hb.1).2.2.2.2.2.1]; exact hn
    obtain ⟨y2, j1, j2, j3⟩ := fold_lo hf l (f s x b) y1 i1 (i3.cx hz) (hb.ext hzl i2) hng (by rw [i3.1.2.2.2.1, (i2.2.1 b hb.1).1]; exact hi) (fun p hp => by
      obtain ⟨p1, p2, p3⟩ := hl p (by simp [hp])
      obtain ⟨-, -, -, q4, q5, -, q7⟩ := i2.2.2.2.1 p p1.1
      rw [q4, q5]
      exact ⟨p1.ext hzl i2, p2, fun h => q7 (p3 h)⟩)
    exact ⟨y2, j1, i2.tr j2, i3.tr j3 i2⟩
theorem fold_hi {f : aS → Nat → Nat → aS} {c e z a : Nat} (hf : UnF f c) : ∀ (l : List Nat) (s : aS) (y : aG), Inv s y c → Cx y c e z → Fi s y a e z → ps y a = 1 → (rm y a = 1 → it y a = 1) → ih y z = 1 → (∀ x ∈ l, Fi s y x e z ∧ ng y x = 1) →
    ∃ y', Inv (l.foldl (fun s x => f s a x) s) y' c ∧ Ex s y (l.foldl (fun s x => f s a x) s) y' ∧ Ku s y (l.foldl (fun s x => f s a x) s) y' 0 0 0 0
  | [], s, y, hI, _, _, _, _, _, _ => ⟨y, hI, Ex.rf, Ku.rf⟩
  | x :: l, s, y, hI, hz, ha, hp, hr, hi, hl => by
    obtain ⟨x1, x2⟩ := hl x (by simp)
    obtain ⟨y1, i1, i2, i3⟩ := hf.2 s y a x e z 0 0 0 hI hz ha x1 hp x2 (Or.inl hi) (Tk.zero hI.1 hr)
    have hzl := zlt hI.1 hz
    obtain ⟨-, -, -, q4, q5, -, q7⟩ := i2.2.2.2.1 a ha.1
    obtain ⟨y2, j1, j2, j3⟩ := fold_hi hf l (f s a x) y1 i1 (i3.cx hz) (ha.ext hzl i2) (by rw [q5]; exact hp) (fun h => q7 (hr (by rw [← q4]; exact h))) (by rw [i3.1.2.2.2.1]; exact hi) (fun p hp => by
      obtain ⟨p1, p2⟩ := hl p (by simp [hp])
      obtain ⟨-, -, -, -, -, t6, -⟩ := i2.2.2.2.1 p p1.1
      rw [t6]
      exact ⟨p1.ext hzl i2, p2⟩)
    exact ⟨y2, j1, i2.tr j2, ((i3.mono (v := 0) (Nat.le_refl _) (Nat.le_refl _) 0).tr j3 i2)⟩
/-- ghosts alone: nothing that asking must keep is touched -/
theorem Ku.gh {s : aS} {y y' : aG} {r q v b : Nat} (h20 : ∀ i, i = 0 ∨ i = 7 ∨ i = 11 → y'.1 20 i = y.1 20 i) (hih : ∀ z, ih y' z = ih y z) (hp : ∀ z, pth y' z = pth y z) (hs : sg y + 2 * sd y + (itl y').length ≤ sg y' + 2 * sd y' + (itl y).length + r ∧ sg y + (itl y').length + (apl y').length ≤ sg y' + (itl y).length + (apl y).length + q) (hn : ∀ t, t < nT s → nf y' t ≤ nf y t + (if v = 1 ∧ t = b then 1 else 0)) : Ku s y s y' r q v b :=
  ⟨⟨h20 0 (by omega), h20 7 (by omega), h20 11 (by omega), hih, hp⟩, hs, hn, ⟨rfl, rfl, rfl⟩⟩
theorem Ku.to {s s' : aS} {y y' : aG} {r q v b : Nat} (h : Ku s y s y' r q v b) (ha : askn s' = askn s ∧ s'.1 8 = s.1 8 ∧ s'.1 9 = s.1 9) : Ku s y s' y' r q v b := ⟨h.1, h.2.1, h.2.2.1, ha⟩
theorem Ku.fr {s0 s s' : aS} {y y' : aG} {r q v b : Nat} (h : Ku s y s' y' r q v b) (hn : nT s0 = nT s) (ha : askn s0 = askn s ∧ s0.1 8 = s.1 8 ∧ s0.1 9 = s.1 9) : Ku s0 y s' y' r q v b := ⟨h.1, h.2.1, fun t ht => h.2.2.1 t (by omega), ⟨h.2.2.2.1.trans ha.1.symm, h.2.2.2.2.1.trans ha.2.1.symm, h.2.2.2.2.2.trans ha.2.2.symm⟩⟩
