/-! ===== something comes into a row ===== -/
theorem row_bind {s : aS} {u side x : Nat} (g t : Nat) : row (bind s u side x) g t = if g = side then (if t = u then row s side u ++ [x] else row s g t) else row s g t := rfl
theorem fc_app {s : aS} {y : aG} {l : List Nat} {x : Nat} : fc s y (l ++ [x]) = fc s y l + (if srt s x = 3 ∨ srt s x = 0 ∨ rm y x = 1 then 1 else 0) := by
  unfold fc
  rw [List.countP_append]
  congr 1
  rw [List.countP_cons, List.countP_nil, Nat.zero_add]
  unfold fre
  by_cases h : srt s x = 3 ∨ srt s x = 0 ∨ rm y x = 1
  · rw [if_pos h, if_pos (decide_eq_true h)]
  · rw [if_neg h, if_neg (by simp only [decide_eq_true_eq]; exact h)]
theorem ex_bind {s : aS} {y y' : aG} {u side x : Nat} (h : Ex s y s y') (hs : side ≤ 1) : Ex s y (bind s u side x) y' := by
  obtain ⟨a, b, c, d, e, f⟩ := h
  refine ⟨a, fun t ht => ?_, c, d, e, f⟩
  refine ⟨rfl, rfl, rfl, rfl, ?_, ?_⟩
  · show row (bind s u side x) 2 t = row s 2 t
    show (if 2 = side then (if t = u then row s side u ++ [x] else row s 2 t) else row s 2 t) = row s 2 t
    rw [if_neg (by omega)]
  · show (if 3 = side then (if t = u then row s side u ++ [x] else row s 3 t) else row s 3 t) = row s 3 t
    rw [if_neg (by omega)]
/-- in general: all other variables' numbers as they were, and the variable's own hold -/
theorem i_bind {s : aS} {y y' : aG} {c u side x : Nat} (hI : Inv s y c) (hs : side ≤ 1) (hx : Fi s y x (lev s u) (zn y u)) (h0 : side = 0 → ps y x = 1 ∧ (rm y x = 1 → it y x = 1)) (h1 : side = 1 → ng y x = 1)
    (hE : Ex s y s y') (hG : Glo (bind s u side x) y' c)
    (ho : ∀ t, t ≠ u → xl y' t = xl y t ∧ xh y' t = xh y t ∧ kl y' t = kl y t ∧ kh y' t = kh y t ∧ nf y' t = nf y t ∧ fq y' t = fq y t ∧ kk y' t = kk y t ∧ nt y' t = nt y t ∧ ln y' t = ln y t ∧ ol y' t = ol y t ∧ oh y' t = oh y t)
    (hw : sM y + sw y' ≤ sM y' + sw y) (hP : (itl y).length ≤ (itl y').length) (hf : (frl y).length ≤ (frl y').length)
    (hD : sD y ≤ sD y' ∧ sU y ≤ sU y') (hZ : sF y' = sF y ∧ (∀ z, ih y' z = ih y z) ∧ pth y' c = pth y c)
    (hV : u < nT s → srt s u = 3 → Vok (bind s u side x) y' c u) : Inv (bind s u side x) y' c := by
  have hE2 : Ex s y (bind s u side x) y' := ex_bind hE hs
  obtain ⟨hG0, hT⟩ := hI
  refine ⟨hG, fun t ht => ?_⟩
  obtain ⟨k1, k2⟩ := hT t ht
  refine ⟨k1.ext ht hE2 hG0.2.2.1.2.2.1 (fun h3 z hz => ?_) (fun h3 z hz => ?_), fun h3 => ?_⟩
  · rw [row_bind] at hz
    by_cases h4 : (0 : Nat) = side
    · rw [if_pos h4] at hz
      by_cases h5 : t = u
      · rw [if_pos h5] at hz
        rcases List.mem_append.mp hz with hz | hz
        · left
          rw [← h4, ← h5] at hz
          exact hz
        · right
          rw [List.mem_singleton.mp hz, h5]
          obtain ⟨-, -, -, d, -⟩ := hE
          obtain ⟨-, -, -, d4, d5, -, d7⟩ := d x hx.1
          rw [d5, d4]
          exact ⟨hx.ext (by have := k1.1.1; rw [h5] at this; exact this) hE2, (h0 h4.symm).1, fun h => d7 ((h0 h4.symm).2 h)⟩
      · rw [if_neg h5] at hz
        exact Or.inl hz
    · rw [if_neg h4] at hz
      exact Or.inl hz
  · rw [row_bind] at hz
    by_cases h4 : (1 : Nat) = side
    · rw [if_pos h4] at hz
      by_cases h5 : t = u
      · rw [if_pos h5] at hz
        rcases List.mem_append.mp hz with hz | hz
        · left
          rw [← h4, ← h5] at hz
          exact hz
        · right
          rw [List.mem_singleton.mp hz, h5]
          obtain ⟨-, -, -, d, -⟩ := hE
          obtain ⟨-, -, -, -, -, d6, -⟩ := d x hx.1
          rw [d6]
          exact ⟨hx.ext (by have := k1.1.1; rw [h5] at this; exact this) hE2, h1 h4.symm⟩
      · rw [if_neg h5] at hz
        exact Or.inl hz
    · rw [if_neg h4] at hz
      exact Or.inl hz
  · by_cases h5 : t = u
    · subst h5
      exact hV ht h3
    · exact Vok.ext (k2 h3) k1 ht h3 hE2 ⟨by rw [row_bind]; simp [h5], by rw [row_bind]; simp [h5]⟩ (ho t h5) hw hP hf (fun _ h => h) hD hZ
/-- what all bounds together may come to by what is told beside -/
def vb (y : aG) : Nat := sO y + sN y + (sU y + sD y) + sL y + (frl y).sum
theorem glo_ext {s s' : aS} {y y' : aG} {c : Nat} (h : Glo s y c) (h1 : nT s' = nT s ∧ nV s' = nV s ∧ stp s' = stp s ∧ s'.1 1 = s.1 1 ∧ s'.1 3 = s.1 3 ∧ s'.1 6 = s.1 6) (hN : sN y' + nV s + 2 ≤ nT s)
    (hz : sZ y' = sZ y ∧ (∀ z, pth y' z = pth y z) ∧ ∀ z, ih y' z = ih y z) (hi : (∀ t, it y' t = 1 → t ∈ itl y') ∧ (itl y').length ≤ sg y' + 2 * sd y' ∧ (itl y').length + (apl y').length ≤ sg y' + sA y' ∧ sA y' ≤ sF y' ∧ sg y' + sd y' ≤ sw y' ∧ sw y' ≤ sM y')
    (hf : sF y' = sF y ∧ frl y' = frl y ∧ sK y' = sK y ∧ sU y' = sU y ∧ sD y' = sD y ∧ sL y' = sL y) (hM : sM y' ≤ stp s ∧ sO y' ≤ sM y') (hb : bnd s' ≤ vb y') (hw : sM y + sw y' ≤ sM y' + sw y) (hl : (itl y).length ≤ (itl y').length) : Glo s' y' c := by
  obtain ⟨g1, g2, ⟨g3, g3a, g3b, g3c⟩, g4, g5, ⟨g11, g12, g13⟩, ⟨g14, g14b⟩, g15, g16⟩ := h
  obtain ⟨a1, a2, a3, a4, a5, a6⟩ := h1
  obtain ⟨b1, b2, b3⟩ := hz
  obtain ⟨c1, c2, c3, c4, c5, c6⟩ := hf
  have hZ : ∀ z, Zok y z → Zok y' z := fun z hz => by
    unfold Zok
    rw [b2 z]
    exact ⟨hz.1, fun d z' hd => (b2 z').trans (hz.2 d z' hd)⟩
  refine ⟨by rw [a1, a2]; exact ⟨g1.1, g1.2.1, g1.2.2.1, hN⟩, fun v hv => ?_, ⟨hZ c g3, by omega, fun z hz => ?_, fun z hz => ?_⟩, ?_, hi, ⟨by omega, by omega, hM.2⟩, ⟨hb, ?_⟩, fun e he => ?_, ?_⟩
  · rw [a2] at hv
    rw [a1]
    have := g2 v hv
    unfold srt one
    rw [a4, a5, a6]
    exact this
  · rw [b1] at hz ⊢
    rw [b2 z]
    exact g3b z hz
  · rw [b3 z]
    rw [b1] at hz
    exact g3c z hz
  · rw [b2 c, ci.ext b3, a2, c1, c2, c3, c4, c5]
    exact g4
  · rw [c3, c4, c5, c6]
    exact g14b
  · rw [c2] at he
    have := g15 e he
    omega
  · rw [c1, c2]
    exact Fok.mono (Nat.le_refl _) (by omega) _ g16
theorem glo_at {s : aS} {y : aG} {c : Nat} (h : Glo s y c) : bnd s ≤ vb y := h.2.2.2.2.2.2.1.1
/-- below: something that copies may take over as it is -/
def yblf (y : aG) (u a : Nat) : aG := h1 (h1 (h2 y 0 u (a :: ol y u)) 11 u (xl y u + 1)) 20 8 (sO y + 1)
theorem i_blf {s : aS} {y : aG} {c u a : Nat} (hI : Inv s y c) (hx : Fi s y a (lev s u) (zn y u)) (hp : ps y a = 1) (hr : rm y a = 1 → it y a = 1) (hf : srt s a = 3 ∨ srt s a = 0 ∨ rm y a = 1) (hn : nt y u = 1) (hA : (a, u) ∈ s.2.2) (hm : a ∉ ol y u) (hB : xl y u + xh y u + sw y + 1 ≤ sM y + nf y u) (hO : sO y + 1 ≤ sM y) :
    Inv (bind s u 0 a) (yblf y u a) c ∧ Ex s y (bind s u 0 a) (yblf y u a) := by
  have hE : Ex s y s (yblf y u a) := Ex.ghost (fun f hf x => by simp [yblf, h1, h2, mst, show f ≠ 20 by omega, show f ≠ 11 by omega]) (fun _ h => h) (fun _ => rfl) (Nat.le_refl _) (fun _ h => h)
  refine ⟨?_, ex_bind hE (by omega)⟩
  have hG := hI.1
  refine i_bind hI (by omega) hx (fun _ => ⟨hp, hr⟩) (fun h => by omega) hE ?_ (fun t ht => ?_) (Nat.le_refl _) (Nat.le_refl _) (Nat.le_refl _) ⟨Nat.le_refl _, Nat.le_refl _⟩ ⟨rfl, fun _ => rfl, rfl⟩ (fun hu h3 => ?_)
  · refine glo_ext hG ⟨rfl, rfl, rfl, rfl, rfl, rfl⟩ hG.1.2.2.2 ⟨rfl, fun _ => rfl, fun _ => rfl⟩ hG.2.2.2.2.1 ⟨rfl, rfl, rfl, rfl, rfl, rfl⟩ ⟨hG.2.2.2.2.2.1.1, hO⟩ ?_ (Nat.le_refl _) (Nat.le_refl _)
    have := glo_at hG
    show bnd s + 1 ≤ sO y + 1 + sN y + (sU y + sD y) + sL y + (frl y).sum
    unfold vb at this
    omega
  · refine ⟨by simp [xl, yblf, h1, h2, mst, ht], rfl, rfl, rfl, rfl, rfl, rfl, rfl, rfl, by simp [ol, yblf, h1, h2, lst, ht], rfl⟩
  · obtain ⟨⟨a1, a2⟩, ⟨b1, b2⟩, c1, ⟨d1, d2, d3, d4, d5, d6⟩, ⟨e1, e2⟩, f1, g1, i1, j1, j2⟩ := (hI.2 u hu).2 h3
    have q1 : xl (yblf y u a) u = xl y u + 1 := by simp [xl, yblf, h1, h2, mst]
    have q2 : ol (yblf y u a) u = a :: ol y u := by simp [ol, yblf, h1, h2, lst]
    have q3 : row (bind s u 0 a) 0 u = row s 0 u ++ [a] := by rw [row_bind]; simp
    have q4 : fc (bind s u 0 a) (yblf y u a) (row s 0 u ++ [a]) = fc s y (row s 0 u) + 1 := by
      have : fc (bind s u 0 a) (yblf y u a) (row s 0 u ++ [a]) = fc s y (row s 0 u ++ [a]) := rfl
      rw [this, fc_app, if_pos hf]
    unfold Vok
    rw [q1, q2, q3, q4]
    refine ⟨⟨?_, a2⟩, ⟨?_, b2⟩, ?_, ⟨d1, d2, d3, d4, d5, d6⟩, ⟨?_, fun x hx2 => ?_⟩, f1, fun h => ?_, i1, j1, j2⟩
    · show fc s y (row s 0 u) + 1 ≤ xl y u + 1 + kl y u
      omega
    · show xl y u + 1 + xh y u + sw y ≤ sM y + nf y u
      omega
    · show xl y u + 1 + xh y u ≤ fq y u + (a :: ol y u).length + (oh y u).length
      rw [List.length_cons]
      omega
    · exact List.nodup_cons.mpr ⟨hm, e1⟩
    · rcases List.mem_cons.mp hx2 with h | h
      · rw [h]
        exact ⟨hA, hx.1, hf.imp id (Or.imp id hr)⟩
      · exact e2 x h
    · have h : nt y u = 0 := h
      omega
