/-! ===== each thing that is done keeps what holds ===== -/
theorem fc.ext {s s' : aS} {y y' : aG} {l : List Nat} (hl : ∀ x ∈ l, srt s' x = srt s x ∧ rm y' x = rm y x) : fc s' y' l = fc s y l := by
  unfold fc
  apply List.countP_congr
  intro x hx
  obtain ⟨h1, h2⟩ := hl x hx
  unfold fre
  rw [h1, h2]
theorem ci.ext {y y' : aG} {l : List Nat} (hl : ∀ z, ih y' z = ih y z) : ci y' l = ci y l := by
  unfold ci
  apply List.countP_congr
  intro x _
  rw [hl x]
theorem Fok.mono {F F' P P' : Nat} (hF : F ≤ F') (hP : P ≤ P') : ∀ l : List Nat, Fok F P l → Fok F' P' l
  | [], _ => trivial
  | e :: r, h => by
    refine ⟨Nat.le_trans h.1 ?_, Fok.mono hF hP r h.2⟩
    have h1 : min (r.length + 1) F ≤ min (r.length + 1) F' := by omega
    have := Nat.mul_le_mul h1 (show P + 2 * (r.length + F) ≤ P' + 2 * (r.length + F') by omega)
    omega
theorem Typ.rows {s : aS} {y : aG} {t : Nat} (h : Typ s y t) (h3 : srt s t = 3) : (∀ x ∈ row s 0 t, Fi s y x (lev s t) (zn y t) ∧ ps y x = 1 ∧ (rm y x = 1 → it y x = 1)) ∧ ∀ x ∈ row s 1 t, Fi s y x (lev s t) (zn y t) ∧ ng y x = 1 := by
  obtain ⟨-, h | h | h | h⟩ := h
  · omega
  · omega
  · omega
  · exact ⟨h.2.2.2.2.2.1, h.2.2.2.2.2.2⟩
/-- a variable that is not touched -/
theorem Vok.ext {s s' : aS} {y y' : aG} {c t : Nat} (h : Vok s y c t) (hT : Typ s y t) (ht : t < nT s) (h3 : srt s t = 3) (hE : Ex s y s' y')
    (hr : row s' 0 t = row s 0 t ∧ row s' 1 t = row s 1 t)
    (hc : xl y' t = xl y t ∧ xh y' t = xh y t ∧ kl y' t = kl y t ∧ kh y' t = kh y t ∧ nf y' t = nf y t ∧ fq y' t = fq y t ∧ kk y' t = kk y t ∧ nt y' t = nt y t ∧ ln y' t = ln y t ∧ ol y' t = ol y t ∧ oh y' t = oh y t)
    (hw : sM y + sw y' ≤ sM y' + sw y) (hP : (itl y).length ≤ (itl y').length) (hf : (frl y).length ≤ (frl y').length)
    (hA : ∀ q ∈ s.2.2, q ∈ s'.2.2) (hD : sD y ≤ sD y' ∧ sU y ≤ sU y')
    (hZ : sF y' = sF y ∧ (∀ z, ih y' z = ih y z) ∧ pth y' c = pth y c) : Vok s' y' c t := by
  obtain ⟨⟨a1, a2⟩, ⟨b1, b2⟩, c1, ⟨d1, d2, d3, d4, d5, d6⟩, ⟨e1, e2⟩, ⟨f1, f2⟩, g, ⟨i1, i2⟩, j1, j2⟩ := h
  obtain ⟨r0, r1⟩ := hT.rows h3
  obtain ⟨u1, u2, u3, u4, u5, u6, u7, u8, u9, u10, u11⟩ := hc
  obtain ⟨⟨x1, x2, -, -, -⟩, b, -, d, -, -⟩ := hE
  obtain ⟨z1, z2, z3⟩ := hZ
  have hPP : PP s y ≤ PP s' y' := by
    unfold PP
    omega
  unfold Vok
  rw [hr.1, hr.2, u1, u2, u3, u4, u5, u6, u7, u8, u9, u10, u11, (b t ht).2.1, (d t ht).1, z1, z3, z2, ci.ext z2, ci.ext z2,
    fc.ext (fun x hx => ⟨(b x (r0 x hx).1.1).1, (d x (r0 x hx).1.1).2.2.2.1⟩), fc.ext (fun x hx => ⟨(b x (r1 x hx).1.1).1, (d x (r1 x hx).1.1).2.2.2.1⟩)]
  have hcx : Cx y' c (lev s t) (zn y t) ↔ Cx y c (lev s t) (zn y t) := by
    unfold Cx
    rw [z3]
  rw [hcx]
  refine ⟨⟨a1, a2⟩, ⟨by omega, b2⟩, c1, ⟨?_, d2, d3, d4, d5, by omega⟩, ⟨e1, fun x hx => ?_⟩, ⟨f1, fun x hx => ?_⟩, fun h0 => ?_, ⟨by omega, by omega⟩, j1, j2⟩
  · have := Nat.mul_le_mul_left (kk y t - nt y t) hPP
    omega
  · obtain ⟨h4, h5, h6⟩ := e2 x hx
    refine ⟨hA _ h4, by omega, ?_⟩
    rw [(b x h5).1]
    exact h6.imp id (Or.imp id ((d x h5).2.2.2.2.2.2))
  · obtain ⟨h4, h5, h6⟩ := f2 x hx
    refine ⟨hA _ h4, by omega, ?_⟩
    rw [(b x h5).1]
    exact h6
  · obtain ⟨h4, h5⟩ := g h0
    refine ⟨h4, fun x hx => ?_⟩
    rw [(b x (f2 x hx).2.1).1]
    exact h5 x hx
/-- a step is begun -/
theorem i_step {s : aS} {y : aG} {c : Nat} (hI : Inv s y c) (h : stp s < 1500) : Inv (w1 s 0 2 (stp s + 1)) y c := by
  have hE : Ex s y (w1 s 0 2 (stp s + 1)) y := ⟨⟨Nat.le_refl _, Nat.le_refl _, Nat.le_refl _, fun _ h => h, fun _ h => Or.inl h⟩, fun _ _ => ⟨rfl, rfl, rfl, rfl, rfl, rfl⟩, fun _ _ => rfl, fun _ _ => ⟨rfl, rfl, rfl, rfl, rfl, rfl, id⟩, fun _ _ => rfl, fun _ h => h⟩
  obtain ⟨hG, hT⟩ := hI
  obtain ⟨g1, g2, g3, g4, g5, ⟨g6, g7, g8⟩, g9⟩ := hG
  refine ⟨⟨g1, g2, g3, g4, g5, ⟨?_, ?_, g8⟩, g9⟩, fun t ht => ?_⟩
  · show sM y ≤ stp s + 1
    omega
  · show stp s + 1 ≤ 1500
    omega
  · obtain ⟨h1, h2⟩ := hT t ht
    exact ⟨h1.ext ht hE g3.2.2.1 (fun _ x hx => Or.inl hx) (fun _ x hx => Or.inl hx), fun h3 => Vok.ext (h2 h3) h1 ht h3 hE ⟨rfl, rfl⟩ ⟨rfl, rfl, rfl, rfl, rfl, rfl, rfl, rfl, rfl, rfl, rfl⟩ (Nat.le_refl _) (Nat.le_refl _) (Nat.le_refl _) (fun _ h => h) ⟨Nat.le_refl _, Nat.le_refl _⟩ ⟨rfl, fun _ => rfl, rfl⟩⟩
theorem Ex.ghost {s : aS} {y y' : aG} (h0 : ∀ f, f ≤ 5 → ∀ x, y'.1 f x = y.1 f x) (h6 : ∀ x, it y x = 1 → it y' x = 1) (h2 : ∀ z, pth y' z = pth y z) (hz : sZ y ≤ sZ y') (hi : ∀ z, ih y z = 1 → ih y' z = 1) (ha : ∀ x, x ∈ apl y → x ∈ apl y' ∨ it y' x = 1 := by exact fun _ h => Or.inl h) : Ex s y s y' :=
  ⟨⟨Nat.le_refl _, Nat.le_refl _, hz, h6, ha⟩, fun _ _ => ⟨rfl, rfl, rfl, rfl, rfl, rfl⟩, fun _ _ => rfl, fun x _ => ⟨h0 0 (by omega) x, h0 1 (by omega) x, h0 2 (by omega) x, h0 3 (by omega) x, h0 4 (by omega) x, h0 5 (by omega) x, h6 x⟩, fun z _ => h2 z, hi⟩
/-- a step is paid for -/
def pay (y : aG) : aG := h1 y 20 12 (sM y + 1)
theorem i_pay {s : aS} {y : aG} {c : Nat} (hI : Inv s y c) (h : sM y < stp s) : Inv s (pay y) c ∧ Ex s y s (pay y) := by
  have hE : Ex s y s (pay y) := Ex.ghost (fun f hf x => by simp [pay, h1, mst, show f ≠ 20 by omega]) (fun _ h => h) (fun _ => rfl) (Nat.le_refl _) (fun _ h => h)
  obtain ⟨hG, hT⟩ := hI
  obtain ⟨g1, g2, g3, g4, ⟨g5, g6, g7, g8, g9, g10⟩, ⟨g11, g12, g13⟩, g14, g15, g16⟩ := hG
  refine ⟨⟨⟨g1, g2, g3, g4, ⟨g5, g6, g7, g8, g9, ?_⟩, ⟨?_, g12, ?_⟩, g14, ?_, g16⟩, fun t ht => ?_⟩, hE⟩
  · show sw y ≤ sM y + 1
    omega
  · show sM y + 1 ≤ stp s
    omega
  · show sO y ≤ sM y + 1
    omega
  · intro e he
    show e + sw y ≤ sM y + 1 + 2
    have := g15 e he
    omega
  · obtain ⟨k1, k2⟩ := hT t ht
    exact ⟨k1.ext ht hE g3.2.2.1 (fun _ x hx => Or.inl hx) (fun _ x hx => Or.inl hx), fun h3 => Vok.ext (k2 h3) k1 ht h3 hE ⟨rfl, rfl⟩ ⟨rfl, rfl, rfl, rfl, rfl, rfl, rfl, rfl, rfl, rfl, rfl⟩ (show sM y + sw y ≤ sM y + 1 + sw y by omega) (Nat.le_refl _) (Nat.le_refl _) (fun _ h => h) ⟨Nat.le_refl _, Nat.le_refl _⟩ ⟨rfl, fun _ => rfl, rfl⟩⟩
/-- a step binds nothing: it is waste; r of it may bring a record's part, d a function's parts -/
def wst (y : aG) (r d : Nat) : aG := h1 (h1 (h1 (h1 y 20 12 (sM y + 1)) 20 4 (sw y + 1)) 20 5 (sg y + r)) 20 6 (sd y + d)
theorem i_wst {s : aS} {y : aG} {c r d : Nat} (hI : Inv s y c) (h : sM y < stp s) (hr : r + d ≤ 1) : Inv s (wst y r d) c ∧ Ex s y s (wst y r d) := by
  have hE : Ex s y s (wst y r d) := Ex.ghost (fun f hf x => by simp [wst, h1, mst, show f ≠ 20 by omega]) (fun _ h => h) (fun _ => rfl) (Nat.le_refl _) (fun _ h => h)
  obtain ⟨hG, hT⟩ := hI
  obtain ⟨g1, g2, g3, g4, ⟨g5, g6, g7, g8, g9, g10⟩, ⟨g11, g12, g13⟩, g14, g15, g16⟩ := hG
  refine ⟨⟨⟨g1, g2, g3, g4, ⟨g5, ?_, ?_, g8, ?_, ?_⟩, ⟨?_, g12, ?_⟩, g14, ?_, g16⟩, fun t ht => ?_⟩, hE⟩
  · show (itl y).length ≤ sg y + r + 2 * (sd y + d)
    omega
  · show (itl y).length + (apl y).length ≤ sg y + r + sA y
    omega
  · show sg y + r + (sd y + d) ≤ sw y + 1
    omega
  · show sw y + 1 ≤ sM y + 1
    omega
  · show sM y + 1 ≤ stp s
    omega
  · show sO y ≤ sM y + 1
    omega
  · intro e he
    show e + (sw y + 1) ≤ sM y + 1 + 2
    have := g15 e he
    omega
  · obtain ⟨k1, k2⟩ := hT t ht
    exact ⟨k1.ext ht hE g3.2.2.1 (fun _ x hx => Or.inl hx) (fun _ x hx => Or.inl hx), fun h3 => Vok.ext (k2 h3) k1 ht h3 hE ⟨rfl, rfl⟩ ⟨rfl, rfl, rfl, rfl, rfl, rfl, rfl, rfl, rfl, rfl, rfl⟩ (show sM y + (sw y + 1) ≤ sM y + 1 + sw y by omega) (Nat.le_refl _) (Nat.le_refl _) (fun _ h => h) ⟨Nat.le_refl _, Nat.le_refl _⟩ ⟨rfl, fun _ => rfl, rfl⟩⟩
/-- a pair is written down as asked -/
theorem i_asked {s : aS} {y : aG} {c a b : Nat} (hI : Inv s y c) : Inv (asked s a b) y c := by
  have hE : Ex s y (asked s a b) y := ⟨⟨Nat.le_refl _, Nat.le_refl _, Nat.le_refl _, fun _ h => h, fun _ h => Or.inl h⟩, fun _ _ => ⟨rfl, rfl, rfl, rfl, rfl, rfl⟩, fun _ _ => rfl, fun _ _ => ⟨rfl, rfl, rfl, rfl, rfl, rfl, id⟩, fun _ _ => rfl, fun _ h => h⟩
  obtain ⟨hG, hT⟩ := hI
  refine ⟨hG, fun t ht => ?_⟩
  obtain ⟨k1, k2⟩ := hT t ht
  exact ⟨k1.ext ht hE hG.2.2.1.2.2.1 (fun _ x hx => Or.inl hx) (fun _ x hx => Or.inl hx), fun h3 => Vok.ext (k2 h3) k1 ht h3 hE ⟨rfl, rfl⟩ ⟨rfl, rfl, rfl, rfl, rfl, rfl, rfl, rfl, rfl, rfl, rfl⟩ (Nat.le_refl _) (Nat.le_refl _) (Nat.le_refl _) (fun _ h => List.mem_cons_of_mem _ h) ⟨Nat.le_refl _, Nat.le_refl _⟩ ⟨rfl, fun _ => rfl, rfl⟩⟩
/-- a copy is asked something of its own for the first time -/
def ntb (y : aG) (u : Nat) : aG := h1 (h1 y 7 u (kk y u + 1)) 8 u 1
theorem i_ntb {s : aS} {y : aG} {c u : Nat} (hI : Inv s y c) (hu : u < nT s) (h3 : srt s u = 3) (h0 : nt y u = 0) (hx : Cx y c (lev s u) (zn y u)) (hi : ih y (zn y u) = 1) : Inv s (ntb y u) c ∧ Ex s y s (ntb y u) := by
  have hE : Ex s y s (ntb y u) := Ex.ghost (fun f hf x => by simp [ntb, h1, mst, show f ≠ 7 by omega, show f ≠ 8 by omega]) (fun _ h => h) (fun _ => rfl) (Nat.le_refl _) (fun _ h => h)
  obtain ⟨hG, hT⟩ := hI
  refine ⟨⟨hG, fun t ht => ?_⟩, hE⟩
  obtain ⟨k1, k2⟩ := hT t ht
  refine ⟨k1.ext ht hE hG.2.2.1.2.2.1 (fun _ x hx => Or.inl hx) (fun _ x hx => Or.inl hx), fun h4 => ?_⟩
  by_cases e : t = u
  · subst e
    obtain ⟨a, b, c1, ⟨d1, d2, d3, d4, d5, d6⟩, e1, f1, g1, i1, j1, j2⟩ := k2 h4
    have hk : kk (ntb y t) t = kk y t + 1 := by simp [kk, ntb, h1, mst]
    have hn : nt (ntb y t) t = 1 := by simp [nt, ntb, h1, mst]
    unfold Vok
    rw [hk, hn]
    refine ⟨a, b, c1, ⟨?_, by omega, by omega, ?_, d5, d6⟩, e1, f1, fun h => by omega, i1, fun _ => ?_, fun h => absurd hx h⟩
    · show fq y t ≤ (kk y t + 1 - 1) * PP s y + 2 * (ln y t - 1)
      rw [h0] at d1
      exact d1
    · show kk y t + 1 + (1 - 1) ≤ ln y t
      omega
    · have := j1 hx
      rw [if_pos ⟨h0, hi⟩] at this
      rw [if_neg (by omega)]
      show kk y t + 1 + ci y ((pth y c).take (lev s t)) + 0 ≤ sF y
      omega
  · exact Vok.ext (k2 h4) k1 ht h4 hE ⟨rfl, rfl⟩ ⟨rfl, rfl, rfl, rfl, rfl, rfl, by simp [kk, ntb, h1, mst, e], by simp [nt, ntb, h1, mst, e], rfl, rfl, rfl⟩ (Nat.le_refl _) (Nat.le_refl _) (Nat.le_refl _) (fun _ h => h) ⟨Nat.le_refl _, Nat.le_refl _⟩ ⟨rfl, fun _ => rfl, rfl⟩
