/-- below or above: something that copies make anew or pass over -/
def ybn (y : aG) : aG := h1 y 20 8 (sO y + 1)
theorem i_bn {s : aS} {y : aG} {c u side a : Nat} (hI : Inv s y c) (hs : side ≤ 1) (hx : Fi s y a (lev s u) (zn y u)) (hp : side = 0 → ps y a = 1 ∧ (rm y a = 1 → it y a = 1)) (hq : side = 1 → ng y a = 1) (hf : ¬ (srt s a = 3 ∨ srt s a = 0 ∨ rm y a = 1)) (hO : sO y + 1 ≤ sM y) :
    Inv (bind s u side a) (ybn y) c ∧ Ex s y (bind s u side a) (ybn y) := by
  have hE : Ex s y s (ybn y) := Ex.ghost (fun f hf x => by simp [ybn, h1, mst, show f ≠ 20 by omega]) (fun _ h => h) (fun _ => rfl) (Nat.le_refl _) (fun _ h => h)
  refine ⟨?_, ex_bind hE hs⟩
  have hG := hI.1
  refine i_bind hI hs hx hp hq hE ?_ (fun t ht => ⟨rfl, rfl, rfl, rfl, rfl, rfl, rfl, rfl, rfl, rfl, rfl⟩) (Nat.le_refl _) (Nat.le_refl _) (Nat.le_refl _) ⟨Nat.le_refl _, Nat.le_refl _⟩ ⟨rfl, fun _ => rfl, rfl⟩ (fun hu h3 => ?_)
  · refine glo_ext hG ⟨rfl, rfl, rfl, rfl, rfl, rfl⟩ hG.1.2.2.2 ⟨rfl, fun _ => rfl, fun _ => rfl⟩ hG.2.2.2.2.1 ⟨rfl, rfl, rfl, rfl, rfl, rfl⟩ ⟨hG.2.2.2.2.2.1.1, hO⟩ ?_ (Nat.le_refl _) (Nat.le_refl _)
    have := glo_at hG
    show bnd s + 1 ≤ sO y + 1 + sN y + (sU y + sD y) + sL y + (frl y).sum
    unfold vb at this
    omega
  · obtain ⟨⟨a1, a2⟩, r⟩ := (hI.2 u hu).2 h3
    have q : ∀ g, fc (bind s u side a) (ybn y) (row (bind s u side a) g u) = fc s y (row s g u) := fun g => by
      have : fc (bind s u side a) (ybn y) (row (bind s u side a) g u) = fc s y (row (bind s u side a) g u) := rfl
      rw [this, row_bind]
      by_cases h4 : g = side
      · rw [if_pos h4, if_pos rfl, fc_app, if_neg hf, h4, Nat.add_zero]
      · rw [if_neg h4]
    refine ⟨⟨?_, ?_⟩, r⟩
    · rw [q 0]
      exact a1
    · rw [q 1]
      exact a2
/-- above: something that copies may take over as it is -/
def ybhf (y : aG) (u a : Nat) : aG := h1 (h1 (h2 y 1 u (a :: oh y u)) 12 u (xh y u + 1)) 20 8 (sO y + 1)
theorem i_bhf {s : aS} {y : aG} {c u a : Nat} (hI : Inv s y c) (hx : Fi s y a (lev s u) (zn y u)) (hp : ng y a = 1) (hf : srt s a = 3 ∨ srt s a = 0) (hn : nt y u = 1 ∨ srt s a = 0) (hA : (u, a) ∈ s.2.2) (hm : a ∉ oh y u) (hB : xl y u + xh y u + sw y + 1 ≤ sM y + nf y u) (hO : sO y + 1 ≤ sM y) :
    Inv (bind s u 1 a) (ybhf y u a) c ∧ Ex s y (bind s u 1 a) (ybhf y u a) := by
  have hE : Ex s y s (ybhf y u a) := Ex.ghost (fun f hf x => by simp [ybhf, h1, h2, mst, show f ≠ 20 by omega, show f ≠ 12 by omega]) (fun _ h => h) (fun _ => rfl) (Nat.le_refl _) (fun _ h => h)
  refine ⟨?_, ex_bind hE (by omega)⟩
  have hG := hI.1
  refine i_bind hI (by omega) hx (fun h => by omega) (fun _ => hp) hE ?_ (fun t ht => ?_) (Nat.le_refl _) (Nat.le_refl _) (Nat.le_refl _) ⟨Nat.le_refl _, Nat.le_refl _⟩ ⟨rfl, fun _ => rfl, rfl⟩ (fun hu h3 => ?_)
  · refine glo_ext hG ⟨rfl, rfl, rfl, rfl, rfl, rfl⟩ hG.1.2.2.2 ⟨rfl, fun _ => rfl, fun _ => rfl⟩ hG.2.2.2.2.1 ⟨rfl, rfl, rfl, rfl, rfl, rfl⟩ ⟨hG.2.2.2.2.2.1.1, hO⟩ ?_ (Nat.le_refl _) (Nat.le_refl _)
    have := glo_at hG
    show bnd s + 1 ≤ sO y + 1 + sN y + (sU y + sD y) + sL y + (frl y).sum
    unfold vb at this
    omega
  · refine ⟨rfl, by simp [xh, ybhf, h1, h2, mst, ht], rfl, rfl, rfl, rfl, rfl, rfl, rfl, rfl, by simp [oh, ybhf, h1, h2, lst, ht]⟩
  · obtain ⟨⟨a1, a2⟩, ⟨b1, b2⟩, c1, ⟨d1, d2, d3, d4, d5, d6⟩, e1, ⟨f1, f2⟩, g1, i1, j1, j2⟩ := (hI.2 u hu).2 h3
    have q1 : xh (ybhf y u a) u = xh y u + 1 := by simp [xh, ybhf, h1, h2, mst]
    have q2 : oh (ybhf y u a) u = a :: oh y u := by simp [oh, ybhf, h1, h2, lst]
    have q3 : row (bind s u 1 a) 1 u = row s 1 u ++ [a] := by rw [row_bind]; simp
    have q4 : fc (bind s u 1 a) (ybhf y u a) (row s 1 u ++ [a]) = fc s y (row s 1 u) + 1 := by
      have : fc (bind s u 1 a) (ybhf y u a) (row s 1 u ++ [a]) = fc s y (row s 1 u ++ [a]) := rfl
      rw [this, fc_app, if_pos (hf.imp id Or.inl)]
    unfold Vok
    rw [q1, q2, q3, q4]
    refine ⟨⟨a1, ?_⟩, ⟨?_, b2⟩, ?_, ⟨d1, d2, d3, d4, d5, d6⟩, e1, ⟨?_, fun x hx2 => ?_⟩, fun h => ?_, i1, j1, j2⟩
    · show fc s y (row s 1 u) + 1 ≤ xh y u + 1 + kh y u
      omega
    · show xl y u + (xh y u + 1) + sw y ≤ sM y + nf y u
      omega
    · show xl y u + (xh y u + 1) ≤ fq y u + (ol y u).length + (a :: oh y u).length
      rw [List.length_cons]
      omega
    · exact List.nodup_cons.mpr ⟨hm, f1⟩
    · rcases List.mem_cons.mp hx2 with h | h
      · rw [h]
        exact ⟨hA, hx.1, hf⟩
      · exact f2 x h
    · have h : nt y u = 0 := h
      refine ⟨(g1 h).1, fun x hx2 => ?_⟩
      rcases List.mem_cons.mp hx2 with h4 | h4
      · rw [h4]
        exact hn.resolve_left (by omega)
      · exact (g1 h).2 x h4
/-- a copy gets something as it is, of what it may get -/
theorem i_cpf {s : aS} {y : aG} {c u side a : Nat} (hI : Inv s y c) (hs : side ≤ 1) (hx : Fi s y a (lev s u) (zn y u)) (hp : side = 0 → ps y a = 1 ∧ (rm y a = 1 → it y a = 1)) (hq : side = 1 → ng y a = 1)
    (h0 : side = 0 → fc s y (row s 0 u) + 1 ≤ xl y u + kl y u) (h1 : side = 1 → fc s y (row s 1 u) + 1 ≤ xh y u + kh y u) (hb : bnd s + 1 ≤ vb y) :
    Inv (bind s u side a) y c ∧ Ex s y (bind s u side a) y := by
  refine ⟨?_, ex_bind Ex.rf hs⟩
  have hG := hI.1
  refine i_bind hI hs hx hp hq Ex.rf ?_ (fun t ht => ⟨rfl, rfl, rfl, rfl, rfl, rfl, rfl, rfl, rfl, rfl, rfl⟩) (Nat.le_refl _) (Nat.le_refl _) (Nat.le_refl _) ⟨Nat.le_refl _, Nat.le_refl _⟩ ⟨rfl, fun _ => rfl, rfl⟩ (fun hu h3 => ?_)
  · exact glo_ext hG ⟨rfl, rfl, rfl, rfl, rfl, rfl⟩ hG.1.2.2.2 ⟨rfl, fun _ => rfl, fun _ => rfl⟩ hG.2.2.2.2.1 ⟨rfl, rfl, rfl, rfl, rfl, rfl⟩ ⟨hG.2.2.2.2.2.1.1, hG.2.2.2.2.2.1.2.2⟩ hb (Nat.le_refl _) (Nat.le_refl _)
  · obtain ⟨⟨a1, a2⟩, r⟩ := (hI.2 u hu).2 h3
    have q : ∀ g, fc (bind s u side a) y (row (bind s u side a) g u) ≤ if g = side then fc s y (row s g u) + 1 else fc s y (row s g u) := fun g => by
      have : fc (bind s u side a) y (row (bind s u side a) g u) = fc s y (row (bind s u side a) g u) := rfl
      rw [this, row_bind]
      by_cases h4 : g = side
      · rw [if_pos h4, if_pos rfl, if_pos h4, fc_app, h4]
        split <;> omega
      · rw [if_neg h4, if_neg h4]
        exact Nat.le_refl _
    refine ⟨⟨?_, ?_⟩, r⟩
    · have q0 := q 0
      by_cases h4 : (0 : Nat) = side
      · rw [if_pos h4] at q0
        have := h0 h4.symm
        omega
      · rw [if_neg h4] at q0
        omega
    · have q0 := q 1
      by_cases h4 : (1 : Nat) = side
      · rw [if_pos h4] at q0
        have := h1 h4.symm
        omega
      · rw [if_neg h4] at q0
        omega
/-- a copy gets a type that was made anew for it -/
def ycn (y : aG) : aG := h1 y 20 9 (sN y + 1)
theorem i_cpn {s : aS} {y : aG} {c u side a : Nat} (hI : Inv s y c) (hs : side ≤ 1) (hx : Fi s y a (lev s u) (zn y u)) (hp : side = 0 → ps y a = 1 ∧ (rm y a = 1 → it y a = 1)) (hq : side = 1 → ng y a = 1) (hf : ¬ (srt s a = 3 ∨ srt s a = 0 ∨ rm y a = 1)) (hN : sN y + 1 + nV s + 2 ≤ nT s) :
    Inv (bind s u side a) (ycn y) c ∧ Ex s y (bind s u side a) (ycn y) := by
  have hE : Ex s y s (ycn y) := Ex.ghost (fun f hf x => by simp [ycn, h1, mst, show f ≠ 20 by omega]) (fun _ h => h) (fun _ => rfl) (Nat.le_refl _) (fun _ h => h)
  refine ⟨?_, ex_bind hE hs⟩
  have hG := hI.1
  refine i_bind hI hs hx hp hq hE ?_ (fun t ht => ⟨rfl, rfl, rfl, rfl, rfl, rfl, rfl, rfl, rfl, rfl, rfl⟩) (Nat.le_refl _) (Nat.le_refl _) (Nat.le_refl _) ⟨Nat.le_refl _, Nat.le_refl _⟩ ⟨rfl, fun _ => rfl, rfl⟩ (fun hu h3 => ?_)
  · refine glo_ext hG ⟨rfl, rfl, rfl, rfl, rfl, rfl⟩ hN ⟨rfl, fun _ => rfl, fun _ => rfl⟩ hG.2.2.2.2.1 ⟨rfl, rfl, rfl, rfl, rfl, rfl⟩ ⟨hG.2.2.2.2.2.1.1, hG.2.2.2.2.2.1.2.2⟩ ?_ (Nat.le_refl _) (Nat.le_refl _)
    have := glo_at hG
    show bnd s + 1 ≤ sO y + (sN y + 1) + (sU y + sD y) + sL y + (frl y).sum
    unfold vb at this
    omega
  · obtain ⟨⟨a1, a2⟩, r⟩ := (hI.2 u hu).2 h3
    have q : ∀ g, fc (bind s u side a) (ycn y) (row (bind s u side a) g u) = fc s y (row s g u) := fun g => by
      have : fc (bind s u side a) (ycn y) (row (bind s u side a) g u) = fc s y (row (bind s u side a) g u) := rfl
      rw [this, row_bind]
      by_cases h4 : g = side
      · rw [if_pos h4, if_pos rfl, fc_app, if_neg hf, h4, Nat.add_zero]
      · rw [if_neg h4]
    refine ⟨⟨?_, ?_⟩, r⟩
    · rw [q 0]
      exact a1
    · rw [q 1]
      exact a2
/-- a link above -/
def ylku (y : aG) (u : Nat) : aG := h1 y 14 u (kh y u + 1)
theorem i_lku {s : aS} {y : aG} {c u a : Nat} (hI : Inv s y c) (hx : Fi s y a (lev s u) (zn y u)) (hp : ng y a = 1) (hk : kh y u + 1 ≤ sU y) (hb : bnd s + 1 ≤ vb y) :
    Inv (bind s u 1 a) (ylku y u) c ∧ Ex s y (bind s u 1 a) (ylku y u) := by
  have hE : Ex s y s (ylku y u) := Ex.ghost (fun f hf x => by simp [ylku, h1, mst, show f ≠ 14 by omega]) (fun _ h => h) (fun _ => rfl) (Nat.le_refl _) (fun _ h => h)
  refine ⟨?_, ex_bind hE (by omega)⟩
  have hG := hI.1
  refine i_bind hI (by omega) hx (fun h => by omega) (fun _ => hp) hE ?_ (fun t ht => ?_) (Nat.le_refl _) (Nat.le_refl _) (Nat.le_refl _) ⟨Nat.le_refl _, Nat.le_refl _⟩ ⟨rfl, fun _ => rfl, rfl⟩ (fun hu h3 => ?_)
  · exact glo_ext hG ⟨rfl, rfl, rfl, rfl, rfl, rfl⟩ hG.1.2.2.2 ⟨rfl, fun _ => rfl, fun _ => rfl⟩ hG.2.2.2.2.1 ⟨rfl, rfl, rfl, rfl, rfl, rfl⟩ ⟨hG.2.2.2.2.2.1.1, hG.2.2.2.2.2.1.2.2⟩ hb (Nat.le_refl _) (Nat.le_refl _)
  · refine ⟨rfl, rfl, rfl, by simp [kh, ylku, h1, mst, ht], rfl, rfl, rfl, rfl, rfl, rfl, rfl⟩
  · obtain ⟨⟨a1, a2⟩, b1, c1, d1, e1, f1, g1, ⟨i1, i2⟩, j1⟩ := (hI.2 u hu).2 h3
    have q1 : kh (ylku y u) u = kh y u + 1 := by simp [kh, ylku, h1, mst]
    have q3 : row (bind s u 1 a) 1 u = row s 1 u ++ [a] := by rw [row_bind]; simp
    have q4 : fc (bind s u 1 a) (ylku y u) (row s 1 u ++ [a]) ≤ fc s y (row s 1 u) + 1 := by
      have : fc (bind s u 1 a) (ylku y u) (row s 1 u ++ [a]) = fc s y (row s 1 u ++ [a]) := rfl
      rw [this, fc_app]
      split <;> omega
    unfold Vok
    rw [q1, q3]
    refine ⟨⟨a1, ?_⟩, b1, c1, d1, e1, f1, g1, ⟨i1, ?_⟩, j1⟩
    · show fc (bind s u 1 a) (ylku y u) (row s 1 u ++ [a]) ≤ xh y u + (kh y u + 1)
      omega
    · exact hk
/-- a link below -/
def ylkd (y : aG) (u : Nat) : aG := h1 y 13 u (kl y u + 1)
theorem i_lkd {s : aS} {y : aG} {c u a : Nat} (hI : Inv s y c) (hx : Fi s y a (lev s u) (zn y u)) (hp : ps y a = 1 ∧ (rm y a = 1 → it y a = 1)) (hk : kl y u + 1 ≤ sD y) (hb : bnd s + 1 ≤ vb y) :
    Inv (bind s u 0 a) (ylkd y u) c ∧ Ex s y (bind s u 0 a) (ylkd y u) := by
  have hE : Ex s y s (ylkd y u) := Ex.ghost (fun f hf x => by simp [ylkd, h1, mst, show f ≠ 13 by omega]) (fun _ h => h) (fun _ => rfl) (Nat.le_refl _) (fun _ h => h)
  refine ⟨?_, ex_bind hE (by omega)⟩
  have hG := hI.1
  refine i_bind hI (by omega) hx (fun _ => hp) (fun h => by omega) hE ?_ (fun t ht => ?_) (Nat.le_refl _) (Nat.le_refl _) (Nat.le_refl _) ⟨Nat.le_refl _, Nat.le_refl _⟩ ⟨rfl, fun _ => rfl, rfl⟩ (fun hu h3 => ?_)
  · exact glo_ext hG ⟨rfl, rfl, rfl, rfl, rfl, rfl⟩ hG.1.2.2.2 ⟨rfl, fun _ => rfl, fun _ => rfl⟩ hG.2.2.2.2.1 ⟨rfl, rfl, rfl, rfl, rfl, rfl⟩ ⟨hG.2.2.2.2.2.1.1, hG.2.2.2.2.2.1.2.2⟩ hb (Nat.le_refl _) (Nat.le_refl _)
  · refine ⟨rfl, rfl, by simp [kl, ylkd, h1, mst, ht], rfl, rfl, rfl, rfl, rfl, rfl, rfl, rfl⟩
  · obtain ⟨⟨a1, a2⟩, b1, c1, d1, e1, f1, g1, ⟨i1, i2⟩, j1⟩ := (hI.2 u hu).2 h3
    have q1 : kl (ylkd y u) u = kl y u + 1 := by simp [kl, ylkd, h1, mst]
    have q3 : row (bind s u 0 a) 0 u = row s 0 u ++ [a] := by rw [row_bind]; simp
    have q4 : fc (bind s u 0 a) (ylkd y u) (row s 0 u ++ [a]) ≤ fc s y (row s 0 u) + 1 := by
      have : fc (bind s u 0 a) (ylkd y u) (row s 0 u ++ [a]) = fc s y (row s 0 u ++ [a]) := rfl
      rw [this, fc_app]
      split <;> omega
    unfold Vok
    rw [q1, q3]
    refine ⟨⟨?_, a2⟩, b1, c1, d1, e1, f1, g1, ⟨?_, i2⟩, j1⟩
    · show fc (bind s u 0 a) (ylkd y u) (row s 0 u ++ [a]) ≤ xl y u + (kl y u + 1)
      omega
    · exact hk
/-- a first one may be bound once more at the price of itself -/
def nfb (y : aG) (u : Nat) : aG := h1 y 10 u (nf y u + 1)
theorem i_nfb {s : aS} {y : aG} {c u : Nat} (hI : Inv s y c) (h : nf y u ≤ 1) : Inv s (nfb y u) c ∧ Ex s y s (nfb y u) := by
  have hE : Ex s y s (nfb y u) := Ex.ghost (fun f hf x => by simp [nfb, h1, mst, show f ≠ 10 by omega]) (fun _ h => h) (fun _ => rfl) (Nat.le_refl _) (fun _ h => h)
  obtain ⟨hG, hT⟩ := hI
  refine ⟨⟨hG, fun t ht => ?_⟩, hE⟩
  obtain ⟨k1, k2⟩ := hT t ht
  refine ⟨k1.ext ht hE hG.2.2.1.2.2.1 (fun _ x hx => Or.inl hx) (fun _ x hx => Or.inl hx), fun h4 => ?_⟩
  by_cases e : t = u
  · subst e
    obtain ⟨a, ⟨b1, b2⟩, r⟩ := k2 h4
    have hk : nf (nfb y t) t = nf y t + 1 := by simp [nf, nfb, h1, mst]
    unfold Vok
    rw [hk]
    refine ⟨a, ⟨?_, by omega⟩, r⟩
    show xl y t + xh y t + sw y ≤ sM y + (nf y t + 1)
    omega
  · exact Vok.ext (k2 h4) k1 ht h4 hE ⟨rfl, rfl⟩ ⟨rfl, rfl, rfl, rfl, by simp [nf, nfb, h1, mst, e], rfl, rfl, rfl, rfl, rfl, rfl⟩ (Nat.le_refl _) (Nat.le_refl _) (Nat.le_refl _) (fun _ h => h) ⟨Nat.le_refl _, Nat.le_refl _⟩ ⟨rfl, fun _ => rfl, rfl⟩
/-- a record's type stands below something for the first time -/
def itr (y : aG) (a : Nat) (ap : List Nat) : aG := h2 (h2 (h1 y 6 a 1) 3 1 (a :: itl y)) 3 2 ap
theorem i_itr {s : aS} {y : aG} {c a : Nat} {ap : List Nat} (hI : Inv s y c) (h1' : (itl y).length + 1 ≤ sg y + 2 * sd y) (h2' : (itl y).length + 1 + ap.length ≤ sg y + sA y) (hap : ∀ x, x ∈ apl y → x ≠ a → x ∈ ap ∨ it y x = 1) : Inv s (itr y a ap) c ∧ Ex s y s (itr y a ap) ∧ it (itr y a ap) a = 1 ∧ itl (itr y a ap) = a :: itl y ∧ apl (itr y a ap) = ap := by
  have e1 : itl (itr y a ap) = a :: itl y := by simp [itl, itr, h2, lst]
  have e2 : apl (itr y a ap) = ap := by simp [apl, itr, h2, lst]
  have e3 : ∀ t, it (itr y a ap) t = if t = a then 1 else it y t := fun t => by simp [it, itr, h1, h2, mst]
  have hE : Ex s y s (itr y a ap) := Ex.ghost (fun f hf x => by simp [itr, h1, h2, mst, show f ≠ 6 by omega]) (fun x h => by rw [e3]; split <;> first | rfl | exact h) (fun _ => rfl) (Nat.le_refl _) (fun _ h => h) (fun x h => by
    rw [e2, e3]
    by_cases hx : x = a
    · exact Or.inr (if_pos hx)
    · exact (hap x h hx).imp id (fun h => by rw [if_neg hx]; exact h))
  obtain ⟨hG, hT⟩ := hI
  have hG0 := hG
  obtain ⟨g1, g2, g3, g4, ⟨g5, g6, g7, g8, g9, g10⟩, ⟨g11, g12, g13⟩, g14, g15, g16⟩ := hG
  refine ⟨⟨glo_ext hG0 ⟨rfl, rfl, rfl, rfl, rfl, rfl⟩ g1.2.2.2 ⟨rfl, fun _ => rfl, fun _ => rfl⟩ ⟨fun t ht => ?_, ?_, ?_, g8, g9, g10⟩ ⟨rfl, rfl, rfl, rfl, rfl, rfl⟩ ⟨g11, g13⟩ (by show bnd s ≤ vb y; exact glo_at hG0) (Nat.le_refl _) (by rw [e1, List.length_cons]; omega), fun t ht => ?_⟩, hE, by rw [e3, if_pos rfl], e1, e2⟩
  · rw [e1]
    rw [e3] at ht
    by_cases h : t = a
    · rw [h]
      exact List.mem_cons_self
    · rw [if_neg h] at ht
      exact List.mem_cons_of_mem _ (g5 t ht)
  · rw [e1, List.length_cons]
    exact h1'
  · rw [e1, e2, List.length_cons]
    exact h2'
  · obtain ⟨k1, k2⟩ := hT t ht
    exact ⟨k1.ext ht hE g3.2.2.1 (fun _ x hx => Or.inl hx) (fun _ x hx => Or.inl hx), fun h3 => Vok.ext (k2 h3) k1 ht h3 hE ⟨rfl, rfl⟩ ⟨rfl, rfl, rfl, rfl, rfl, rfl, rfl, rfl, rfl, rfl, rfl⟩ (Nat.le_refl _) (by rw [e1, List.length_cons]; omega) (Nat.le_refl _) (fun _ h => h) ⟨Nat.le_refl _, Nat.le_refl _⟩ ⟨rfl, fun _ => rfl, rfl⟩⟩
