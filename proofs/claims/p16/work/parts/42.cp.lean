/-! ===== LIFTED, MADE ANEW: the whole ===== -/
/-- where things are copied from (zone g, depth e; what is above ab) and to (zone z, level lv) -/
def Src (y : aG) (c g e ab lv z : Nat) (an : Prop) : Prop :=
  (Zok y g ∧ g < sZ y ∧ Cx y g e g) ∧ (ab < e ∧ ab ≤ lv ∧ Cx y c lv z) ∧ (∀ d, d ≤ ab → (pth y z)[d]? = (pth y g)[d]?) ∧ ((an → ∀ d x, ab < d → Cx y g d x → ¬ Cx y c d x) ∧ (¬ an → ∀ d x, ab < d → Cx y g d x → Cx y c d x)) ∧ (an → z = c ∧ Cx y c lv c) ∧ (¬ an → lv = ab ∧ ih y z = 1)
/-- what was copied already in this time of asking -/
def Mm (s : aS) (y : aG) (lv z : Nat) : Prop := ∀ i, memo s i ≠ 0 → memo s i - 1 < nT s ∧ srt s (memo s i - 1) = 3 ∧ lev s (memo s i - 1) = lv ∧ Fi s y (memo s i - 1) lv z
/-- what copying leaves as it was, of the first N types; q: bounds that were granted ahead -/
def Kp (N q : Nat) (s : aS) (y : aG) (s' : aS) (y' : aG) (ab : Nat) (an : Prop) : Prop :=
  (sM y' = sM y ∧ sw y' = sw y ∧ sO y' = sO y ∧ sg y' = sg y ∧ sd y' = sd y ∧ sA y' = sA y ∧ sF y' = sF y ∧ sZ y' = sZ y) ∧
  (itl y' = itl y ∧ apl y' = apl y ∧ (∀ x, it y' x = it y x) ∧ (∀ z, ih y' z = ih y z) ∧ ∀ z, pth y' z = pth y z) ∧
  (s'.2.2 = s.2.2 ∧ stp s' = stp s ∧ askn s' = askn s ∧ s'.1 8 = s.1 8 ∧ s'.1 9 = s.1 9) ∧
  (∀ t, t < N → xl y' t = xl y t ∧ xh y' t = xh y t ∧ fq y' t = fq y t ∧ kk y' t = kk y t ∧ nt y' t = nt y t ∧ ln y' t = ln y t ∧ nf y' t = nf y t ∧ ol y' t = ol y t ∧ oh y' t = oh y t) ∧
  (∀ t, t < N → an ∨ lev s t ≤ ab → row s' 0 t = row s 0 t ∧ row s' 1 t = row s 1 t ∧ kl y' t = kl y t ∧ kh y' t = kh y t) ∧
  (bnd s' + vb y ≤ bnd s + vb y' + q ∧ nT s + sN y' + nV s' ≤ nT s' + sN y + nV s)
theorem Kp.rf {N q : Nat} {s : aS} {y : aG} {ab : Nat} {an : Prop} : Kp N q s y s y ab an := ⟨⟨rfl, rfl, rfl, rfl, rfl, rfl, rfl, rfl⟩, ⟨rfl, rfl, fun _ => rfl, fun _ => rfl, fun _ => rfl⟩, ⟨rfl, rfl, rfl, rfl, rfl⟩, fun _ _ => ⟨rfl, rfl, rfl, rfl, rfl, rfl, rfl, rfl, rfl⟩, fun _ _ _ => ⟨rfl, rfl, rfl, rfl⟩, ⟨Nat.le_add_right _ _, Nat.le_refl _⟩⟩
theorem Kp.mono {N N' q q' : Nat} {s s' : aS} {y y' : aG} {ab : Nat} {an : Prop} (h : Kp N q s y s' y' ab an) (hN : N' ≤ N) (hq : q ≤ q') : Kp N' q' s y s' y' ab an := by
  obtain ⟨a, b, c, d, e, f1, f2⟩ := h
  exact ⟨a, b, c, fun t ht => d t (by omega), fun t ht => e t (by omega), ⟨by omega, f2⟩⟩
theorem Kp.tr {N q q' : Nat} {s s1 s2 : aS} {y y1 y2 : aG} {ab : Nat} {an : Prop} (h : Kp N q s y s1 y1 ab an) (h' : Kp N q' s1 y1 s2 y2 ab an) (hE : Ex s y s1 y1) (hN : N ≤ nT s) : Kp N (q + q') s y s2 y2 ab an := by
  obtain ⟨⟨a1, a2, a3, a4, a5, a6, a7, a8⟩, ⟨b1, b2, b3, b4, b5⟩, ⟨c1, c2, c3, c4, c5⟩, d, e, f1, f2⟩ := h
  obtain ⟨⟨a1', a2', a3', a4', a5', a6', a7', a8'⟩, ⟨b1', b2', b3', b4', b5'⟩, ⟨c1', c2', c3', c4', c5'⟩, d', e', f1', f2'⟩ := h'
  have hn := hE.1.1
  refine ⟨⟨a1'.trans a1, a2'.trans a2, a3'.trans a3, a4'.trans a4, a5'.trans a5, a6'.trans a6, a7'.trans a7, a8'.trans a8⟩, ⟨b1'.trans b1, b2'.trans b2, fun x => (b3' x).trans (b3 x), fun x => (b4' x).trans (b4 x), fun x => (b5' x).trans (b5 x)⟩, ⟨c1'.trans c1, c2'.trans c2, c3'.trans c3, c4'.trans c4, c5'.trans c5⟩, fun t ht => ?_, fun t ht ha => ?_, ⟨by omega, by omega⟩⟩
  · obtain ⟨p1, p2, p3, p4, p5, p6, p7, p8, p9⟩ := d t ht
    obtain ⟨q1, q2, q3, q4, q5, q6, q7, q8, q9⟩ := d' t ht
    exact ⟨q1.trans p1, q2.trans p2, q3.trans p3, q4.trans p4, q5.trans p5, q6.trans p6, q7.trans p7, q8.trans p8, q9.trans p9⟩
  · obtain ⟨p1, p2, p3, p4⟩ := e t ht ha
    obtain ⟨q1, q2, q3, q4⟩ := e' t ht (by rw [(hE.2.1 t (by omega)).2.1]; exact ha)
    exact ⟨q1.trans p1, q2.trans p2, q3.trans p3, q4.trans p4⟩
theorem Src.kp {N q : Nat} {s s' : aS} {y y' : aG} {c g e ab lv z ab' : Nat} {an an' : Prop} (h : Src y c g e ab lv z an) (hK : Kp N q s y s' y' ab' an') : Src y' c g e ab lv z an := by
  obtain ⟨⟨-, -, -, -, -, -, -, a8⟩, ⟨-, -, -, b4, b5⟩, -⟩ := hK
  unfold Src Zok Cx
  rw [a8, b5 g, b5 c, b5 z, b4 z]
  obtain ⟨⟨h1, h2, h3⟩, h4, h5, h6⟩ := h
  exact ⟨⟨⟨h1.1, fun d z' hd => (b5 z').trans (h1.2 d z' hd)⟩, h2, h3⟩, h4, h5, h6⟩
/-- from a variable's own place -/
theorem Src.sub {y : aG} {c g e ab lv z d x : Nat} {an : Prop} (h : Src y c g e ab lv z an) (hx : Cx y g d x) (hd : ab < d) (hxl : x < sZ y) : Src y c x d ab lv z an := by
  obtain ⟨⟨h1, h2, h3⟩, ⟨h4, h4b, h4c⟩, h5, ⟨h6, h7⟩, h8⟩ := h
  refine ⟨⟨hx.zok h1, hxl, hx.self h1⟩, ⟨hd, h4b, h4c⟩, fun d' hd' => ?_, ⟨fun ha d' x' hd' hx' => ?_, fun ha d' x' hd' hx' => ?_⟩, h8⟩
  · rw [hx.at h1 (by omega)]
    exact h5 d' hd'
  · have hl : d' < d + 1 := by
      rw [← (hx.len h1).2.2]
      obtain ⟨h9, -⟩ := List.getElem?_eq_some_iff.mp hx'
      exact h9
    unfold Cx at hx'
    rw [hx.at h1 (by omega)] at hx'
    exact h6 ha d' x' hd' hx'
  · have hl : d' < d + 1 := by
      rw [← (hx.len h1).2.2]
      obtain ⟨h9, -⟩ := List.getElem?_eq_some_iff.mp hx'
      exact h9
    unfold Cx at hx'
    rw [hx.at h1 (by omega)] at hx'
    exact h7 ha d' x' hd' hx'
/-- there is a first one left for a copy -/
theorem Src.room {s : aS} {y : aG} {c g e ab lv z u : Nat} {an : Prop} (h : Src y c g e ab lv z an) (hG : Glo s y c) (hV : Vok s y c u) (hx : Cx y g (lev s u) (zn y u)) (hd : ab < lev s u) : kk y u + ci y ((pth y c).take lv) + (if ih y z = 1 then 1 else 0) ≤ sF y := by
  obtain ⟨⟨h1, h2, h3⟩, ⟨h4, h4b, h4c⟩, h5, ⟨h6, h7⟩, h8, h9⟩ := h
  obtain ⟨-, -, -, -, -, -, -, -, j1, j2⟩ := hV
  have hs : ci y ((pth y c).take (lv + 1)) = ci y ((pth y c).take lv) + (if ih y z = 1 then 1 else 0) := by
    rw [List.take_succ, ci_app]
    unfold Cx at h4c
    rw [h4c]
    show _ + ci y [z] = _
    rw [ci_one]
  by_cases ha : an
  · have := j2 (h6 ha _ _ hd hx)
    have := ci_take_le (y := y) (l := pth y c) (j := lv + 1)
    omega
  · have := j1 (h7 ha _ _ hd hx)
    have h10 := (h9 ha).1
    have := ci_take (y := y) (l := pth y c) (j := lv + 1) (k := lev s u) (by omega)
    omega
theorem Mm.ext {s s' : aS} {y y' : aG} {lv z : Nat} (h : Mm s y lv z) (hz : z < sZ y) (hE : Ex s y s' y') (hm : memo s' = memo s) : Mm s' y' lv z := fun i hi => by
  have hmi : memo s' i = memo s i := by rw [hm]
  rw [hmi] at hi ⊢
  obtain ⟨h1, h2, h3, h4⟩ := h i hi
  obtain ⟨b1, b2, -⟩ := hE.2.1 _ h1
  exact ⟨by have := hE.1.1; omega, b1.trans h2, b2.trans h3, h4.ext hz hE⟩
theorem i_stops {s : aS} {y : aG} {c w p : Nat} (hI : Inv s y c) : Inv (stops s w p) y c ∧ Ex s y (stops s w p) y := by
  unfold stops
  split
  · have hE : Ex s y (w1 (w1 s 0 3 w) 0 4 (p + 1)) y := ⟨⟨Nat.le_refl _, Nat.le_refl _, Nat.le_refl _, fun _ h => h, fun _ h => Or.inl h⟩, fun _ _ => ⟨rfl, rfl, rfl, rfl, rfl, rfl⟩, fun _ _ => rfl, fun _ _ => ⟨rfl, rfl, rfl, rfl, rfl, rfl, id⟩, fun _ _ => rfl, fun _ h => h⟩
    obtain ⟨hG, hT⟩ := hI
    refine ⟨⟨hG, fun t ht => ?_⟩, hE⟩
    obtain ⟨k1, k2⟩ := hT t ht
    exact ⟨k1.ext ht hE hG.2.2.1.2.2.1 (fun _ x hx => Or.inl hx) (fun _ x hx => Or.inl hx), fun h3 => Vok.ext (k2 h3) k1 ht h3 hE ⟨rfl, rfl⟩ ⟨rfl, rfl, rfl, rfl, rfl, rfl, rfl, rfl, rfl, rfl, rfl⟩ (Nat.le_refl _) (Nat.le_refl _) (Nat.le_refl _) (fun _ h => h) ⟨Nat.le_refl _, Nat.le_refl _⟩ ⟨rfl, fun _ => rfl, rfl⟩⟩
  · exact ⟨hI, Ex.rf⟩
theorem sto_stops {s : aS} {w p : Nat} (hw : w ≠ 0) : sto (stops s w p) ≠ 0 := by
  unfold stops
  split
  · exact hw
  · assumption
theorem kp_stops {N q : Nat} {s : aS} {y : aG} {w p ab : Nat} {an : Prop} : Kp N q s y (stops s w p) y ab an := by
  unfold stops
  split
  · exact ⟨⟨rfl, rfl, rfl, rfl, rfl, rfl, rfl, rfl⟩, ⟨rfl, rfl, fun _ => rfl, fun _ => rfl, fun _ => rfl⟩, ⟨rfl, rfl, rfl, rfl, rfl⟩, fun _ _ => ⟨rfl, rfl, rfl, rfl, rfl, rfl, rfl, rfl, rfl⟩, fun _ _ _ => ⟨rfl, rfl, rfl, rfl⟩, ⟨Nat.le_add_right _ _, Nat.le_refl _⟩⟩
  · exact Kp.rf
theorem memo_stops {s : aS} {w p : Nat} : memo (stops s w p) = memo s := by
  unfold stops
  split <;> rfl
/-- what comes of a type t by copying -/
def Got (s : aS) (y : aG) (t : Nat) (s' : aS) (y' : aG) (r ab lv z : Nat) : Prop :=
  sto s' = 0 → Fi s' y' r lv z ∧ (ps y t = 1 → ps y' r = 1) ∧ (ng y t = 1 → ng y' r = 1) ∧ (lev s t ≤ ab → r = t) ∧ (ab < lev s t → lev s' r = lv ∧ (srt s t = 3 → srt s' r = 3) ∧ (srt s t ≠ 3 → srt s' r ≠ 3 ∧ srt s' r ≠ 0 ∧ rm y' r = 0 ∧ nT s + sN y' + nV s' + 1 ≤ nT s' + sN y + nV s))
/-- one who copies as he should -/
def CpF (f : aS → Nat → aS × Nat) (c ab lv z : Nat) (an : Prop) : Prop :=
  ∀ (s : aS) (y : aG) (t e g : Nat), Inv s y c → Mm s y lv z → Src y c g e ab lv z an → Fi s y t e g → (sto s ≠ 0 → sto (f s t).1 ≠ 0) ∧ ∃ y', Inv (f s t).1 y' c ∧ Ex s y (f s t).1 y' ∧ Kp (nT s) 0 s y (f s t).1 y' ab an ∧ Mm (f s t).1 y' lv z ∧ Got s y t (f s t).1 y' (f s t).2 ab lv z
