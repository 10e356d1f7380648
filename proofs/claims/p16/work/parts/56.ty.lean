/-! ===== TYPING ===== -/
/-- a record's type goes into a function's -/
def yap (y : aG) (p : Nat) : aG := h1 (h2 y 3 2 (p :: apl y)) 20 7 (sA y + 1)
theorem i_apl {s : aS} {y : aG} {c p : Nat} (hI : Inv s y c) (h : sA y + 1 ≤ sF y) : Inv s (yap y p) c ∧ Ex s y s (yap y p) ∧ p ∈ apl (yap y p) ∧ sA (yap y p) = sA y + 1 ∧ sF (yap y p) = sF y := by
  have e1 : apl (yap y p) = p :: apl y := by simp [apl, yap, h1, h2, lst]
  have hE : Ex s y s (yap y p) := Ex.ghost (fun f hf x => by simp [yap, h1, h2, mst, show f ≠ 20 by omega]) (fun _ h => h) (fun _ => rfl) (Nat.le_refl _) (fun _ h => h) (fun x h => Or.inl (by rw [e1]; exact List.mem_cons_of_mem _ h))
  obtain ⟨hG, hT⟩ := hI
  have hG0 := hG
  obtain ⟨g1, g2, g3, g4, ⟨g5, g6, g7, g8, g9, g10⟩, ⟨g11, g12, g13⟩, g14, g15, g16⟩ := hG
  refine ⟨⟨glo_ext hG0 ⟨rfl, rfl, rfl, rfl, rfl, rfl⟩ g1.2.2.2 ⟨rfl, fun _ => rfl, fun _ => rfl⟩ ⟨g5, g6, ?_, h, g9, g10⟩ ⟨rfl, rfl, rfl, rfl, rfl, rfl⟩ ⟨g11, g13⟩ (by show bnd s ≤ vb y; exact glo_at hG0) (Nat.le_refl _) (Nat.le_refl _), fun t ht => ?_⟩, hE, by rw [e1]; exact List.mem_cons_self, rfl, rfl⟩
  · rw [e1, List.length_cons]
    show (itl y).length + ((apl y).length + 1) ≤ sg y + (sA y + 1)
    omega
  · obtain ⟨k1, k2⟩ := hT t ht
    exact ⟨k1.ext ht hE g3.2.2.1 (fun _ x hx => Or.inl hx) (fun _ x hx => Or.inl hx), fun h3 => Vok.ext (k2 h3) k1 ht h3 hE ⟨rfl, rfl⟩ ⟨rfl, rfl, rfl, rfl, rfl, rfl, rfl, rfl, rfl, rfl, rfl⟩ (Nat.le_refl _) (Nat.le_refl _) (Nat.le_refl _) (fun _ h => h) ⟨Nat.le_refl _, Nat.le_refl _⟩ ⟨rfl, fun _ => rfl, rfl⟩⟩
/-- whether u covers its part c -/
def covers (tr : aM) (u c : Nat) : Prop := tr 0 u = 3 ∨ (tr 0 u = 7 ∧ tr 11 u = c) ∨ tr 0 u = 8
/-- all that cover c on the way up have P -/
def Cv (P : Nat → Prop) (tr : aM) (top : Nat) : Nat → Nat → Prop
  | 0, _ => True
  | k + 1, c => c = top ∨ tr 3 c = 0 ∨ ((covers tr (tr 3 c - 1) c → P (tr 3 c - 1)) ∧ Cv P tr top k (tr 3 c - 1))
theorem Cv.bind {P : Nat → Prop} {tr : aM} {top x u : Nat} : ∀ (k c : Nat), Cv P tr top k c → binder tr top x k c = some u → P u
  | 0, _, _, h => by simp [binder] at h
  | k + 1, c, hC, h => by
    unfold binder at h
    by_cases h1 : c = top
    · rw [if_pos h1] at h
      exact absurd h (by simp)
    rw [if_neg h1] at h
    by_cases h2 : tr 3 c = 0
    · rw [if_pos h2] at h
      exact absurd h (by simp)
    rw [if_neg h2] at h
    obtain ⟨h3, h4⟩ := (hC.resolve_left h1).resolve_left h2
    by_cases h5 : tr 1 (tr 3 c - 1) = x ∧ (tr 0 (tr 3 c - 1) = 3 ∨ (tr 0 (tr 3 c - 1) = 7 ∧ tr 11 (tr 3 c - 1) = c) ∨ tr 0 (tr 3 c - 1) = 8)
    · rw [if_pos h5] at h
      rw [← Option.some.inj h]
      exact h3 h5.2
    · rw [if_neg h5] at h
      exact Cv.bind k _ h4 h
theorem Cv.imp {P Q : Nat → Prop} {tr : aM} {top : Nat} {rk : Nat → Nat} (hr : ∀ c, tr 3 c ≠ 0 → rk (tr 3 c - 1) < rk c) {m : Nat} (h : ∀ u, rk u < m → P u → Q u) : ∀ (k c : Nat), rk c ≤ m → Cv P tr top k c → Cv Q tr top k c
  | 0, _, _, _ => trivial
  | k + 1, c, hc, hC => by
    rcases hC with h1 | h1 | ⟨h1, h2⟩
    · exact Or.inl h1
    · exact Or.inr (Or.inl h1)
    · by_cases h0 : tr 3 c = 0
      · exact Or.inr (Or.inl h0)
      · have := hr c h0
        exact Or.inr (Or.inr ⟨fun hv => h _ (by omega) (h1 hv), Cv.imp hr h k _ (by omega) h2⟩)
/-- what a binder gave, as it is seen at level l in zone c -/
def Pb (s : aS) (y : aG) (c l u : Nat) : Prop :=
  (s.1 9 u = 0 → Fi s y (s.1 8 u) l c ∧ srt s (s.1 8 u) = 3 ∧ ih y (zn y (s.1 8 u)) = 1) ∧
  (∀ m, s.1 9 u = m + 1 → m ≤ l ∧ ps y (s.1 8 u) = 1 ∧ ∃ g, Zok y g ∧ g < sZ y ∧ Cx y g (m + 1) g ∧ Fi s y (s.1 8 u) (m + 1) g ∧ (∀ d, d ≤ m → (pth y c)[d]? = (pth y g)[d]?) ∧ ∀ d x, m < d → Cx y g d x → ¬ Cx y c d x)
theorem Pb.ext {s s' : aS} {y y' : aG} {c l u : Nat} (h : Pb s y c l u) (hG : Glo s y c) (hE : Ex s y s' y') (h8 : s'.1 8 u = s.1 8 u) (h9 : s'.1 9 u = s.1 9 u) : Pb s' y' c l u := by
  have hcl := hG.2.2.1.2.1
  have hpc : pth y' c = pth y c := hE.2.2.2.2.1 c hcl
  refine ⟨fun h0 => ?_, fun m hm => ?_⟩
  · rw [h9] at h0
    obtain ⟨a, b, d⟩ := h.1 h0
    rw [h8]
    refine ⟨a.ext hcl hE, (hE.2.1 _ a.1).1.trans b, ?_⟩
    rw [(hE.2.2.2.1 _ a.1).1]
    exact hE.2.2.2.2.2 _ d
  · rw [h9] at hm
    obtain ⟨a, b, g, g1, g2, g3, g4, g5, g6⟩ := h.2 m hm
    have hpg : pth y' g = pth y g := hE.2.2.2.2.1 g g2
    rw [h8]
    refine ⟨a, by rw [(hE.2.2.2.1 _ g4.1).2.2.2.2.1]; exact b, g, Zok.ext (s := s) (s' := s') g1 g2 (fun d z' hd => hG.2.2.1.2.2.1 g g2 z' (List.mem_of_getElem? hd)) hE, by have := hE.1.2.2.1; omega, by unfold Cx; rw [hpg]; exact g3, g4.ext g2 hE, fun d hd => by rw [hpc, hpg]; exact g5 d hd, fun d x hd hx => by
      unfold Cx at hx ⊢
      rw [hpg] at hx
      rw [hpc]
      exact g6 d x hd hx⟩
/-- seen from a part that begins -/
theorem Pb.opn {s : aS} {y : aG} {c l u : Nat} (h : Pb s y c l u) (hI : Inv s y c) (hz : Cx y c l c) : Pb s (yop y c) (sZ y) (l + 1) u := by
  obtain ⟨i1, i2, i3, i4, i5, i6⟩ := i_open hI
  have hG := hI.1
  have hcl := hG.2.2.1.2.1
  have hlen : (pth y c).length = l + 1 := (pth_split hG.2.2.1.1 hz).2.2
  refine ⟨fun h0 => ?_, fun m hm => ?_⟩
  · obtain ⟨a, b, d⟩ := h.1 h0
    have a0 := a.ext hcl i2
    refine ⟨⟨a.1, by have := a.2.1; omega, ?_, fun _ => ⟨?_, Or.inr ?_⟩⟩, b, ?_⟩
    · rcases a.2.2.1 with h5 | h5
      · exact Or.inl h5
      · right
        rw [i3, List.getElem?_append_left (by have := a.2.1; omega)]
        exact h5
    · obtain ⟨-, hh | hh | hh | hh⟩ := (hI.2 _ a.1).1
      · exact hh.2.2.2.2.1
      · have := hh.1
        omega
      · have := hh.1
        omega
      · exact hh.2.2.2.1.2.1
    · rw [i5]
      exact d
    · rw [i5]
      exact d
  · obtain ⟨a, b, g, g1, g2, g3, g4, g5, g6⟩ := h.2 m hm
    have hpg := i4 g g2
    refine ⟨by omega, b, g, Zok.ext (s := s) (s' := s) g1 g2 (fun d z' hd => hG.2.2.1.2.2.1 g g2 z' (List.mem_of_getElem? hd)) i2, by have := i2.1.2.2.1; omega, by unfold Cx; rw [hpg]; exact g3, g4.ext g2 i2, fun d hd => ?_, fun d x hd hx => ?_⟩
    · rw [i3, hpg, List.getElem?_append_left (by omega)]
      exact g5 d hd
    · unfold Cx at hx ⊢
      rw [hpg] at hx
      rw [i3]
      rcases Nat.lt_or_ge d (pth y c).length with h5 | h5
      · rw [List.getElem?_append_left h5]
        exact g6 d x hd hx
      · intro h7
        rw [List.getElem?_append_right h5] at h7
        have h8 := List.mem_singleton.mp (List.mem_of_getElem? h7)
        have h9 := hG.2.2.1.2.2.1 g g2 x (List.mem_of_getElem? hx)
        omega
