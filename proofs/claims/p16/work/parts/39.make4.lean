/-! ===== new variables ===== -/
theorem newV_at (s : aS) (l x : Nat) : srt (newV s l) x = (if x = nT s then 3 else srt s x) ∧ lev (newV s l) x = (if x = nT s then l else lev s x) ∧ one (newV s l) x = (if x = nT s then nV s else one s x) ∧ two (newV s l) x = two s x ∧ (newV s l).1 6 x = (if x = nV s then nT s else s.1 6 x) ∧ row (newV s l) 0 x = (if x = nT s then [] else row s 0 x) ∧ row (newV s l) 1 x = (if x = nT s then [] else row s 1 x) ∧ parts (newV s l) x = parts s x ∧ labs (newV s l) x = labs s x := by
  refine ⟨?_, ?_, ?_, ?_, ?_, ?_, ?_, ?_, ?_⟩
  · simp [srt, newV, newT, w1, w2, mst, nT]
  · simp [lev, newV, newT, w1, w2, mst, nT]
  · simp [one, newV, newT, w1, w2, mst, nT, nV]
  · simp [two, newV, newT, w1, w2, mst]
  · simp [newV, newT, w1, w2, mst, nT, nV]
  · simp [row, newV, newT, w1, w2, lst, nT]
  · simp [row, newV, newT, w1, w2, lst, nT]
  · simp [parts, newV, newT, w1, w2, lst]
  · simp [labs, newV, newT, w1, w2, lst]
def yV (y : aG) (t z k n l f a b c d q : Nat) : aG :=
  h2 (h2 (h1 (h1 (h1 (h1 (h1 (h1 (h1 (h1 (h1 (ynew y t z 1 1 0 1 1) 7 t k) 8 t n) 9 t l) 10 t f) 11 t a) 12 t b) 13 t c) 14 t d) 16 t q) 0 t []) 1 t []
theorem yV_at (y : aG) (t z k n l f a b c d q x : Nat) : kk (yV y t z k n l f a b c d q) x = (if x = t then k else kk y x) ∧ nt (yV y t z k n l f a b c d q) x = (if x = t then n else nt y x) ∧ ln (yV y t z k n l f a b c d q) x = (if x = t then l else ln y x) ∧ nf (yV y t z k n l f a b c d q) x = (if x = t then f else nf y x) ∧ xl (yV y t z k n l f a b c d q) x = (if x = t then a else xl y x) ∧ xh (yV y t z k n l f a b c d q) x = (if x = t then b else xh y x) ∧ kl (yV y t z k n l f a b c d q) x = (if x = t then c else kl y x) ∧ kh (yV y t z k n l f a b c d q) x = (if x = t then d else kh y x) ∧ fq (yV y t z k n l f a b c d q) x = (if x = t then q else fq y x) ∧ ol (yV y t z k n l f a b c d q) x = (if x = t then [] else ol y x) ∧ oh (yV y t z k n l f a b c d q) x = (if x = t then [] else oh y x) := by
  refine ⟨?_, ?_, ?_, ?_, ?_, ?_, ?_, ?_, ?_, ?_, ?_⟩
  · simp [kk, yV, ynew, h1, h2, mst]
  · simp [nt, yV, ynew, h1, h2, mst]
  · simp [ln, yV, ynew, h1, h2, mst]
  · simp [nf, yV, ynew, h1, h2, mst]
  · simp [xl, yV, ynew, h1, h2, mst]
  · simp [xh, yV, ynew, h1, h2, mst]
  · simp [kl, yV, ynew, h1, h2, mst]
  · simp [kh, yV, ynew, h1, h2, mst]
  · simp [fq, yV, ynew, h1, h2, mst]
  · simp [ol, yV, ynew, h1, h2, lst]
  · simp [oh, yV, ynew, h1, h2, lst]
theorem yV_at2 (y : aG) (t z k n l f a b c d q x : Nat) : zn (yV y t z k n l f a b c d q) x = (if x = t then z else zn y x) ∧ nv (yV y t z k n l f a b c d q) x = (if x = t then 1 else nv y x) ∧ ar (yV y t z k n l f a b c d q) x = (if x = t then 1 else ar y x) ∧ rm (yV y t z k n l f a b c d q) x = (if x = t then 0 else rm y x) ∧ ps (yV y t z k n l f a b c d q) x = (if x = t then 1 else ps y x) ∧ ng (yV y t z k n l f a b c d q) x = (if x = t then 1 else ng y x) := by
  have := ynew_at y t z 1 1 0 1 1 x
  exact this
/-- in general -/
theorem i_newV {s : aS} {y y' : aG} {c l : Nat} (hI : Inv s y c) (hE : Ex s y (newV s l) y') (hG' : Glo (newV s l) y' c) (hT' : Typ (newV s l) y' (nT s)) (hV' : Vok (newV s l) y' c (nT s))
    (ho : ∀ t, t < nT s → xl y' t = xl y t ∧ xh y' t = xh y t ∧ kl y' t = kl y t ∧ kh y' t = kh y t ∧ nf y' t = nf y t ∧ fq y' t = fq y t ∧ kk y' t = kk y t ∧ nt y' t = nt y t ∧ ln y' t = ln y t ∧ ol y' t = ol y t ∧ oh y' t = oh y t)
    (hw : sM y + sw y' ≤ sM y' + sw y) (hP : (itl y).length ≤ (itl y').length) (hf : (frl y).length ≤ (frl y').length) (hD : sD y ≤ sD y' ∧ sU y ≤ sU y')
    (hZ : ∀ t, t < nT s → srt s t = 3 → (Cx y' c (lev s t) (zn y t) → kk y t + ci y' ((pth y' c).take (lev s t)) + (if nt y t = 0 ∧ ih y' (zn y t) = 1 then 1 else 0) ≤ sF y') ∧ (¬ Cx y' c (lev s t) (zn y t) → kk y t + ci y' (pth y' c) ≤ sF y')) :
    Inv (newV s l) y' c := by
  obtain ⟨hG, hT⟩ := hI
  refine ⟨hG', fun t ht => ?_⟩
  by_cases e : t = nT s
  · rw [e]
    exact ⟨hT', fun _ => hV'⟩
  · have hlt : t < nT s := by
      have : nT (newV s l) = nT s + 1 := rfl
      omega
    obtain ⟨k1, k2⟩ := hT t hlt
    obtain ⟨p1, -, -, -, -, p6, p7, -, -⟩ := newV_at s l t
    rw [if_neg e] at p1 p6 p7
    refine ⟨k1.ext hlt hE hG.2.2.1.2.2.1 (fun _ x hx => Or.inl (by rw [← p6]; exact hx)) (fun _ x hx => Or.inl (by rw [← p7]; exact hx)), fun h => ?_⟩
    rw [p1] at h
    exact Vok.ext2 (k2 h) k1 hlt h hE ⟨p6, p7⟩ (ho t hlt) hw hP hf (fun _ hq => hq) hD (hZ t hlt h)
theorem ex_newV {s : aS} {y y' : aG} {c l : Nat} (hG : Glo s y c) (h0 : ∀ f, f ≤ 5 → ∀ x, x < nT s → y'.1 f x = y.1 f x) (h6 : ∀ x, it y x = 1 → it y' x = 1) (h2 : ∀ z, pth y' z = pth y z) (hz : sZ y ≤ sZ y') (hi : ∀ z, ih y z = 1 → ih y' z = 1) (ha : ∀ x, x ∈ apl y → x ∈ apl y') : Ex s y (newV s l) y' := by
  refine ⟨⟨Nat.le_succ _, Nat.le_succ _, hz, h6, fun x h => Or.inl (ha x h)⟩, fun x hx => ?_, fun v hv => ?_, fun x hx => ⟨h0 0 (by omega) x hx, h0 1 (by omega) x hx, h0 2 (by omega) x hx, h0 3 (by omega) x hx, h0 4 (by omega) x hx, h0 5 (by omega) x hx, h6 x⟩, fun z _ => h2 z, hi⟩
  · obtain ⟨p1, p2, p3, p4, -, -, -, p8, p9⟩ := newV_at s l x
    rw [p1, p2, p3, p4, p8, p9]
    have hne : x ≠ nT s := by omega
    simp only [if_neg hne]
    exact ⟨trivial, trivial, trivial, trivial, trivial, trivial⟩
  · obtain ⟨-, -, -, -, p5, -⟩ := newV_at s l v
    rw [p5, if_neg (by omega)]
/-- a variable of its own standing -/
theorem typ_newV {s : aS} {y' : aG} {c e z : Nat} (hG' : Glo (newV s e) y' c) (hz : Cx y' c e z) (hy : zn y' (nT s) = z ∧ nv y' (nT s) = 1 ∧ ar y' (nT s) = 1 ∧ rm y' (nT s) = 0 ∧ ps y' (nT s) = 1 ∧ ng y' (nT s) = 1) : Typ (newV s e) y' (nT s) ∧ Fi (newV s e) y' (nT s) e z := by
  obtain ⟨p1, p2, p3, -, -, p6, p7, -, -⟩ := newV_at s e (nT s)
  obtain ⟨-, -, -, -, p5, -, -, -, -⟩ := newV_at s e (nV s)
  rw [if_pos rfl] at p1 p2 p3 p5 p6 p7
  obtain ⟨y1, y2, y3, y4, y5, y6⟩ := hy
  have hzc := hG'.2.2.1.1
  refine ⟨?_, ?_⟩
  · unfold Typ
    rw [p1, p2, p3, p5, p6, p7, y1, y2, y3, y4, y5, y6]
    exact ⟨⟨zlt hG' hz, fun h => by omega⟩, Or.inr (Or.inr (Or.inr ⟨rfl, Nat.lt_succ_self _, rfl, ⟨rfl, rfl, rfl, rfl, rfl⟩, ⟨hz.zok hzc, (hz.len hzc).2.2⟩, fun x hx => absurd hx (by simp), fun x hx => absurd hx (by simp)⟩))⟩
  · unfold Fi
    rw [p2, y1, y2, y3]
    exact ⟨Nat.lt_succ_self _, Nat.le_refl _, Or.inr (hz.self hzc), fun h => by omega⟩
