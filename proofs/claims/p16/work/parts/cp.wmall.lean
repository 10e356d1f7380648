/-! ===== the machine of WORKING: every run keeps what holds ===== -/
def wmT (tr : aM) (N : Nat) (dp : Nat → Nat) : Prop := (∀ n, n < N → tr 0 n ≤ 11 ∧ tr 2 n ≤ 6 ∧ ∀ i, i < prts (tr 0 n) (tr 2 n) → tr (10 + i) n < N ∧ dp n + 1 ≤ dp (tr (10 + i) n)) ∧ (∀ n, n < N → dp n ≤ 120) ∧ ∀ n, n < N → (tr 0 n = 2 ∨ tr 0 n = 3 ∨ tr 0 n = 6 ∨ tr 0 n = 7 ∨ tr 0 n = 8) → tr 1 n < 26
def wmF (tr : aM) (N : Nat) (dp : Nat → Nat) (al : Nat) (f : wmS → Nat → Nat → wmS × Nat) : Prop := ∀ s n e, wmW tr N dp s → hlt s = 0 → bgn s ≤ al → n < N → e ≤ ne s → eln s e ≤ dp n → wmP tr N dp al s 0 (f s n e)
section WA
variable {tr : aM} {N : Nat} {dp : Nat → Nat} {al : Nat} {f : wmS → Nat → Nat → wmS × Nat} {s : wmS} {n e : Nat} {mk : Nat → Int32}
theorem wmk_s (x m e : Nat) : wmk s x (m + 1) e = if e = 0 then 0 else if ele s (e - 1) = x then e else wmk s x m (enx s (e - 1)) := rfl
theorem wmk_ok (h : wmW tr N dp s) (x : Nat) : ∀ m e, e ≤ ne s → wmk s x m e = 0 ∨ (1 ≤ wmk s x m e ∧ wmk s x m e ≤ ne s ∧ eln s (wmk s x m e) ≤ eln s e)
  | 0, e, _ => Or.inl rfl
  | m + 1, e, he => by
    rw [wmk_s]
    by_cases h0 : e = 0
    · rw [if_pos h0]
      exact Or.inl rfl
    · rw [if_neg h0]
      by_cases h1 : ele s (e - 1) = x
      · rw [if_pos h1]
        exact Or.inr ⟨by omega, he, Nat.le_refl _⟩
      · rw [if_neg h1]
        obtain ⟨a1, a2, -⟩ := h.2 (e - 1) (by omega)
        rcases wmk_ok h x m (enx s (e - 1)) (by omega) with z | ⟨z1, z2, z3⟩
        · exact Or.inl z
        · refine Or.inr ⟨z1, z2, Nat.le_trans z3 ?_⟩
          have : eln s e = s.1 9 (e - 1) := if_neg h0
          omega
/-- one part -/
theorem wmF.part (hf : wmF tr N dp al f) (hT : wmT tr N dp) {s1 : wmS} {i : Nat} (hW : wmW tr N dp s1) (h0 : hlt s1 = 0) (hx : Xt s s1) (hb1 : bgn s1 ≤ al) (hn : n < N) (he : e ≤ ne s) (hl : eln s e ≤ dp n) (hi : i < prts (tr 0 n) (tr 2 n)) : wmP tr N dp al s1 0 (f s1 (tr (10 + i) n) e) := by
  obtain ⟨a1, a2⟩ := (hT.1 n hn).2.2 i hi
  refine hf s1 _ e hW h0 hb1 a1 (Nat.le_trans he hx.2.1) ?_
  rw [hx.eln he]
  omega
theorem prts_of {k q : Nat} : (k = 3 → prts k q = 1) ∧ (k = 4 → prts k q = 2) ∧ (k = 5 → prts k q = q) ∧ (k = 6 → prts k q = 1) ∧ (k = 7 → prts k q = 2) ∧ (k = 8 → prts k q = 2) ∧ (k = 9 → prts k q = 3) ∧ (k = 10 → prts k q = 2) ∧ (k = 11 → prts k q = 2) := by
  refine ⟨?_, ?_, ?_, ?_, ?_, ?_, ?_, ?_, ?_⟩ <;> intro h <;> subst h <;> rfl
theorem C0 (hb : bgn s ≤ al) : wmC al s s 0 := ⟨Nat.le_refl _, hb, by omega, by omega⟩
theorem ok_name (hf : wmF tr N dp al f) (hT : wmT tr N dp) (hW : wmW tr N dp s) (h0 : hlt s = 0) (hb : bgn s ≤ al) (hn : n < N) (he : e ≤ ne s) : wmP tr N dp al s 1 (wmName tr f s n e) := by
  unfold wmName
  rcases wmk_ok hW (tr 1 n) 120 e he with z | ⟨z1, z2, z3⟩
  · rw [if_pos z]
    exact wmP.halt hW hb (by decide)
  · rw [if_neg (by omega)]
    obtain ⟨a1, a2, a3, a4⟩ := hW.2 (wmk s (tr 1 n) 120 e - 1) (by omega)
    by_cases hr : ere s (wmk s (tr 1 n) 120 e - 1) = 0
    · rw [if_pos hr]
      exact (wmP.was hW hb (a3 hr)).mono (by decide)
    · rw [if_neg hr]
      obtain ⟨b1, b2, b3⟩ := a4.1 hr
      obtain ⟨c1, c2⟩ : tr 10 (ere s (wmk s (tr 1 n) 120 e - 1) - 1) < N ∧ _ ≤ dp (tr 10 (ere s (wmk s (tr 1 n) 120 e - 1) - 1)) := (hT.1 _ b1).2.2 0 (by rw [b2]; show 0 < 2; decide)
      have ee : eln s (wmk s (tr 1 n) 120 e) = s.1 9 (wmk s (tr 1 n) 120 e - 1) := if_neg (by omega)
      exact (hf s _ _ hW h0 hb c1 z2 (by rw [ee]; omega)).mono (by decide)
theorem ok_let (hf : wmF tr N dp al f) (hT : wmT tr N dp) (hW : wmW tr N dp s) (h0 : hlt s = 0) (hb : bgn s ≤ al) (hn : n < N) (he : e ≤ ne s) (hl : eln s e ≤ dp n) (hk : tr 0 n = 7) : wmP tr N dp al s 1 (wmLet tr f s n e) := by
  have hp : prts (tr 0 n) (tr 2 n) = 2 := prts_of.2.2.2.2.1 hk
  have h1 : wmP tr N dp al s 0 (f s (tr 10 n) e) := hf.part hT (i := 0) hW h0 Xt.rf hb hn he hl (by rw [hp]; decide)
  unfold wmLet
  by_cases hh : hlt (f s (tr 10 n) e).1 = 0
  · rw [if_pos hh]
    obtain ⟨w1, x1, c1, v1⟩ := h1
    have hw := w_wme (le := tr 1 n) (va := (f s (tr 10 n) e).2) (re := 0) (nx := e) w1 (hT.2.2 n hn (by omega)) (Nat.le_trans he x1.2.1) (fun _ => v1 hh) (fun z => absurd rfl z)
    obtain ⟨k1, k2, k3, k4, -⟩ := wme_k (s := (f s (tr 10 n) e).1) (le := tr 1 n) (va := (f s (tr 10 n) e).2) (re := 0) (nx := e)
    obtain ⟨p1, p2⟩ : tr 11 n < N ∧ dp n + 1 ≤ dp (tr 11 n) := (hT.1 n hn).2.2 1 (by rw [hp]; decide)
    have h2 := hf _ (tr 11 n) (ne (f s (tr 10 n) e).1 + 1) hw (k4.trans hh) (by rw [k3]; exact c1.2.1) p1 (by rw [k1]; exact Nat.le_refl _) (by rw [eln_new, x1.eln he]; omega)
    exact (wmP.trans x1 c1 (wmP.trans x_wme (wmC.env c1.2.1) h2)).mono (by decide)
  · rw [if_neg hh]
    exact ⟨h1.1, h1.2.1, h1.2.2.1.mono (by decide), fun z => absurd z hh⟩
theorem ok_rec (hf : wmF tr N dp al f) (hT : wmT tr N dp) (hW : wmW tr N dp s) (h0 : hlt s = 0) (hb : bgn s ≤ al) (hn : n < N) (he : e ≤ ne s) (hl : eln s e ≤ dp n) (hk : tr 0 n = 8) : wmP tr N dp al s 1 (wmRecc tr f s n e) := by
  have hp : prts (tr 0 n) (tr 2 n) = 2 := prts_of.2.2.2.2.2.1 hk
  unfold wmRecc
  have hw := w_wme (le := tr 1 n) (va := 0) (re := n + 1) (nx := e) hW (hT.2.2 n hn (by omega)) he (fun z => absurd z (by omega)) (fun _ => ⟨by rw [Nat.add_sub_cancel]; exact hn, by rw [Nat.add_sub_cancel]; exact hk, by rw [Nat.add_sub_cancel]; exact hl⟩)
  obtain ⟨k1, k2, k3, k4, -⟩ := wme_k (s := s) (le := tr 1 n) (va := 0) (re := n + 1) (nx := e)
  obtain ⟨p1, p2⟩ : tr 11 n < N ∧ dp n + 1 ≤ dp (tr 11 n) := (hT.1 n hn).2.2 1 (by rw [hp]; decide)
  have h2 := hf _ (tr 11 n) (ne s + 1) hw (k4.trans h0) (by rw [k3]; exact hb) p1 (by rw [k1]; exact Nat.le_refl _) (by rw [eln_new]; omega)
  exact (wmP.trans x_wme (wmC.env hb) h2).mono (by decide)
theorem ok_apply3 (hf : wmF tr N dp al f) (hT : wmT tr N dp) (hW : wmW tr N dp s) (h0 : hlt s = 0) (hb : bgn s ≤ al) {a b : Nat} (ha : a < wnv s) (hb2 : b < wnv s) : wmP tr N dp al s 1 (wmApply3 tr f s n a b) := by
  unfold wmApply3
  by_cases h2 : vso s a = 2
  · rw [if_pos h2]
    obtain ⟨b1, b2, b3, b4⟩ := (hW.1 a ha).2.1 h2
    have hw := w_wme (le := tr 1 (vno s a)) (va := b) (re := 0) (nx := vse s a) hW (hT.2.2 _ b1 (by omega)) b3 (fun _ => hb2) (fun z => absurd rfl z)
    obtain ⟨k1, k2, k3, k4, -⟩ := wme_k (s := s) (le := tr 1 (vno s a)) (va := b) (re := 0) (nx := vse s a)
    obtain ⟨p1, p2⟩ : tr 10 (vno s a) < N ∧ dp (vno s a) + 1 ≤ dp (tr 10 (vno s a)) := (hT.1 _ b1).2.2 0 (by rw [b2]; show 0 < 1; decide)
    have h2 := hf _ (tr 10 (vno s a)) (ne s + 1) hw (k4.trans h0) (by rw [k3]; exact hb) p1 (by rw [k1]; exact Nat.le_refl _) (by rw [eln_new]; omega)
    exact (wmP.trans x_wme (wmC.env hb) h2).mono (by decide)
  · rw [if_neg h2]
    exact wmP.halt hW hb (by decide)
theorem wmP.stop {c c' : Nat} {r : wmS × Nat} (h : wmP tr N dp al s c r) (hh : ¬ hlt r.1 = 0) (hc : c ≤ c') {v : Nat} : wmP tr N dp al s c' (r.1, v) := by
  obtain ⟨w1, x1, c1, v1⟩ := h
  refine ⟨w1, x1, ?_, fun z => absurd z hh⟩
  unfold wmC at c1 ⊢
  show bgn s ≤ bgn r.1 ∧ bgn r.1 ≤ al ∧ wnv r.1 + bgn s ≤ wnv s + bgn r.1 + c' ∧ ne r.1 + bgn s ≤ ne s + bgn r.1 + c'
  omega
theorem ok_apply (hf : wmF tr N dp al f) (hT : wmT tr N dp) (hW : wmW tr N dp s) (h0 : hlt s = 0) (hb : bgn s ≤ al) (hn : n < N) (he : e ≤ ne s) (hl : eln s e ≤ dp n) (hk : tr 0 n = 4) : wmP tr N dp al s 1 (wmApply tr f s n e) := by
  have hp : prts (tr 0 n) (tr 2 n) = 2 := prts_of.2.1 hk
  have h1 : wmP tr N dp al s 0 (f s (tr 10 n) e) := hf.part hT (i := 0) hW h0 Xt.rf hb hn he hl (by rw [hp]; decide)
  unfold wmApply
  by_cases hh : hlt (f s (tr 10 n) e).1 = 0
  · rw [if_pos hh]
    obtain ⟨w1, x1, c1, v1⟩ := id h1
    have h2 : wmP tr N dp al (f s (tr 10 n) e).1 0 (f (f s (tr 10 n) e).1 (tr 11 n) e) := hf.part hT (i := 1) w1 hh x1 c1.2.1 hn he hl (by rw [hp]; decide)
    unfold wmApply2
    by_cases hh2 : hlt (f (f s (tr 10 n) e).1 (tr 11 n) e).1 = 0
    · rw [if_pos hh2]
      obtain ⟨w2, x2, c2, v2⟩ := id h2
      have h3 := ok_apply3 (n := n) hf hT w2 hh2 c2.2.1 (Nat.lt_of_lt_of_le (v1 hh) x2.1) (v2 hh2)
      exact (wmP.trans x1 c1 (wmP.trans x2 c2 h3)).mono (by decide)
    · rw [if_neg hh2]
      exact (wmP.trans x1 c1 (h2.stop hh2 (Nat.le_refl _))).mono (by decide)
  · rw [if_neg hh]
    exact h1.stop hh (by decide)
theorem ok_list {s0 : wmS} {f2 : wmS → Nat → wmS × Nat} {all : List Nat} (hf : ∀ s n, wmW tr N dp s → hlt s = 0 → bgn s ≤ al → Xt s0 s → n ∈ all → wmP tr N dp al s 0 (f2 s n)) : ∀ (ns : List Nat) (s : wmS), (∀ n ∈ ns, n ∈ all) → wmW tr N dp s → hlt s = 0 → bgn s ≤ al → Xt s0 s → wmW tr N dp (wml f2 s ns).1 ∧ Xt s (wml f2 s ns).1 ∧ wmC al s (wml f2 s ns).1 0 ∧ (hlt (wml f2 s ns).1 = 0 → (wml f2 s ns).2.length = ns.length ∧ ∀ x ∈ (wml f2 s ns).2, x < wnv (wml f2 s ns).1)
  | [], s, _, hW, h0, hb, hx => ⟨hW, Xt.rf, C0 hb, fun _ => ⟨rfl, fun x h => absurd h List.not_mem_nil⟩⟩
  | n :: ns, s, ha, hW, h0, hb, hx => by
    have h1 := hf s n hW h0 hb hx (ha n List.mem_cons_self)
    unfold wml
    by_cases hh : hlt (f2 s n).1 = 0
    · rw [if_pos hh]
      obtain ⟨w1, x1, c1, v1⟩ := h1
      obtain ⟨w2, x2, c2, v2⟩ := ok_list hf ns (f2 s n).1 (fun m hm => ha m (List.mem_cons_of_mem _ hm)) w1 hh c1.2.1 (hx.tr x1)
      refine ⟨w2, x1.tr x2, c1.trans c2, fun z => ?_⟩
      · obtain ⟨e1, e2⟩ := v2 z
        refine ⟨by rw [List.length_cons, List.length_cons, e1], fun x hx => ?_⟩
        rcases List.mem_cons.mp hx with rfl | h
        · exact Nat.lt_of_lt_of_le (v1 hh) x2.1
        · exact e2 x h
    · rw [if_neg hh]
      exact ⟨h1.1, h1.2.1, h1.2.2.1, fun z => absurd z hh⟩
theorem ok_record (hf : wmF tr N dp al f) (hT : wmT tr N dp) (hW : wmW tr N dp s) (h0 : hlt s = 0) (hb : bgn s ≤ al) (hn : n < N) (he : e ≤ ne s) (hl : eln s e ≤ dp n) (hk : tr 0 n = 5) : wmP tr N dp al s 1 (wmRecord tr f s n e) := by
  have hp : prts (tr 0 n) (tr 2 n) = tr 2 n := prts_of.2.2.1 hk
  obtain ⟨w1, x1, c1, v1⟩ := ok_list (s0 := s) (f2 := fun s n => f s n e) (all := (List.range (tr 2 n)).map (fun i => tr (10 + i) n)) (fun s1 m hW1 h1 hb1 hx1 hm => by
    obtain ⟨i, hi, rfl⟩ := List.mem_map.mp hm
    exact hf.part hT hW1 h1 hx1 hb1 hn he hl (by rw [hp]; exact List.mem_range.mp hi)) ((List.range (tr 2 n)).map (fun i => tr (10 + i) n)) s (fun _ h => h) hW h0 hb Xt.rf
  unfold wmRecord wmRec2
  by_cases hh : hlt (wml (fun s n => f s n e) s ((List.range (tr 2 n)).map (fun i => tr (10 + i) n))).1 = 0
  · rw [if_pos hh]
    obtain ⟨e1, e2⟩ := v1 hh
    rw [List.length_map, List.length_range] at e1
    have h2 := wmP.val (so := 3) (n := n) (e := 0) (x := 0) w1 c1.2.1 (by decide) (fun z => absurd z (by decide)) (fun _ => ⟨hn, hk, e1, e2⟩)
    exact (wmP.trans x1 c1 h2).mono (by decide)
  · rw [if_neg hh]
    exact ⟨w1, x1, c1.mono (by decide), fun z => absurd z hh⟩
theorem ok_field (hf : wmF tr N dp al f) (hT : wmT tr N dp) (hW : wmW tr N dp s) (h0 : hlt s = 0) (hb : bgn s ≤ al) (hn : n < N) (he : e ≤ ne s) (hl : eln s e ≤ dp n) (hk : tr 0 n = 6) : wmP tr N dp al s 1 (wmField tr f s n e) := by
  have hp : prts (tr 0 n) (tr 2 n) = 1 := prts_of.2.2.2.1 hk
  have h1 : wmP tr N dp al s 0 (f s (tr 10 n) e) := hf.part hT (i := 0) hW h0 Xt.rf hb hn he hl (by rw [hp]; decide)
  unfold wmField
  by_cases hh : hlt (f s (tr 10 n) e).1 = 0
  · rw [if_pos hh]
    obtain ⟨w1, x1, c1, v1⟩ := id h1
    refine (wmP.trans x1 c1 (c' := 0) ?_).mono (by decide)
    unfold wmField2
    by_cases h3 : vso (f s (tr 10 n) e).1 (f s (tr 10 n) e).2 = 3
    · rw [if_pos h3]
      obtain ⟨b1, b2, b3, b4⟩ := (w1.1 _ (v1 hh)).2.2 h3
      by_cases h4 : wmpl tr (vno (f s (tr 10 n) e).1 (f s (tr 10 n) e).2) (tr 1 n) (tr 2 (vno (f s (tr 10 n) e).1 (f s (tr 10 n) e).2)) 0 < tr 2 (vno (f s (tr 10 n) e).1 (f s (tr 10 n) e).2)
      · rw [if_pos h4]
        refine wmP.was w1 c1.2.1 ?_
        rw [gtD (by rw [b3]; exact h4)]
        exact b4 _ (List.getElem_mem _)
      · rw [if_neg h4]
        exact wmP.halt w1 c1.2.1 (by decide)
    · rw [if_neg h3]
      exact wmP.halt w1 c1.2.1 (by decide)
  · rw [if_neg hh]
    exact h1.stop hh (by decide)
theorem ok_pick (hf : wmF tr N dp al f) (hT : wmT tr N dp) (hW : wmW tr N dp s) (h0 : hlt s = 0) (hb : bgn s ≤ al) (hn : n < N) (he : e ≤ ne s) (hl : eln s e ≤ dp n) (hk : tr 0 n = 9) : wmP tr N dp al s 1 (wmPick tr f s n e) := by
  have hp : prts (tr 0 n) (tr 2 n) = 3 := prts_of.2.2.2.2.2.2.1 hk
  have h1 : wmP tr N dp al s 0 (f s (tr 10 n) e) := hf.part hT (i := 0) hW h0 Xt.rf hb hn he hl (by rw [hp]; decide)
  unfold wmPick
  by_cases hh : hlt (f s (tr 10 n) e).1 = 0
  · rw [if_pos hh]
    obtain ⟨w1, x1, c1, v1⟩ := id h1
    refine (wmP.trans x1 c1 (c' := 0) ?_).mono (by decide)
    unfold wmPick2
    by_cases h3 : vso (f s (tr 10 n) e).1 (f s (tr 10 n) e).2 = 1
    · rw [if_pos h3]
      by_cases h4 : (f s (tr 10 n) e).1.2.1 (f s (tr 10 n) e).2 = 1
      · rw [if_pos h4]
        exact hf.part hT (i := 1) w1 hh x1 c1.2.1 hn he hl (by rw [hp]; decide)
      · rw [if_neg h4]
        exact hf.part hT (i := 2) w1 hh x1 c1.2.1 hn he hl (by rw [hp]; decide)
    · rw [if_neg h3]
      exact wmP.halt w1 c1.2.1 (by decide)
  · rw [if_neg hh]
    exact h1.stop hh (by decide)
theorem ok_two (hf : wmF tr N dp al f) (hT : wmT tr N dp) (hW : wmW tr N dp s) (h0 : hlt s = 0) (hb : bgn s ≤ al) (hn : n < N) (he : e ≤ ne s) (hl : eln s e ≤ dp n) (hk : tr 0 n = 10 ∨ tr 0 n = 11) : wmP tr N dp al s 1 (wmTwo tr f s n e) := by
  have hp : prts (tr 0 n) (tr 2 n) = 2 := hk.elim prts_of.2.2.2.2.2.2.2.1 prts_of.2.2.2.2.2.2.2.2
  have h1 : wmP tr N dp al s 0 (f s (tr 10 n) e) := hf.part hT (i := 0) hW h0 Xt.rf hb hn he hl (by rw [hp]; decide)
  unfold wmTwo
  by_cases hh : hlt (f s (tr 10 n) e).1 = 0
  · rw [if_pos hh]
    obtain ⟨w1, x1, c1, v1⟩ := id h1
    have h2 : wmP tr N dp al (f s (tr 10 n) e).1 0 (f (f s (tr 10 n) e).1 (tr 11 n) e) := hf.part hT (i := 1) w1 hh x1 c1.2.1 hn he hl (by rw [hp]; decide)
    unfold wmTwo2
    by_cases hh2 : hlt (f (f s (tr 10 n) e).1 (tr 11 n) e).1 = 0
    · rw [if_pos hh2]
      obtain ⟨w2, x2, c2, v2⟩ := id h2
      refine (wmP.trans x1 c1 (wmP.trans x2 c2 (c' := 1) ?_)).mono (by decide)
      unfold wmTwo3
      split
      · split
        · exact wmP.val w2 c2.2.1 (by decide) (fun z => absurd z (by decide)) (fun z => absurd z (by decide))
        · exact wmP.val w2 c2.2.1 (by decide) (fun z => absurd z (by decide)) (fun z => absurd z (by decide))
      · exact wmP.halt w2 c2.2.1 (by decide)
    · rw [if_neg hh2]
      exact (wmP.trans x1 c1 (h2.stop hh2 (Nat.le_refl _))).mono (by decide)
  · rw [if_neg hh]
    exact h1.stop hh (by decide)
theorem ok_wmd (hf : wmF tr N dp al f) (hT : wmT tr N dp) (hW : wmW tr N dp s) (h0 : hlt s = 0) (hb : bgn s ≤ al) (hn : n < N) (he : e ≤ ne s) (hl : eln s e ≤ dp n) : wmP tr N dp al s 1 (wmd tr mk f s n e) := by
  have hk := (hT.1 n hn).1
  unfold wmd
  by_cases k0 : tr 0 n = 0
  · rw [if_pos k0]
    exact wmP.val hW hb (by decide) (fun z => absurd z (by decide)) (fun z => absurd z (by decide))
  rw [if_neg k0]
  by_cases k1 : tr 0 n = 1
  · rw [if_pos k1]
    exact wmP.val hW hb (by decide) (fun z => absurd z (by decide)) (fun z => absurd z (by decide))
  rw [if_neg k1]
  by_cases k2 : tr 0 n = 2
  · rw [if_pos k2]
    exact ok_name hf hT hW h0 hb hn he
  rw [if_neg k2]
  by_cases k3 : tr 0 n = 3
  · rw [if_pos k3]
    exact wmP.val hW hb (by decide) (fun _ => ⟨hn, k3, he, hl⟩) (fun z => absurd z (by decide))
  rw [if_neg k3]
  by_cases k4 : tr 0 n = 4
  · rw [if_pos k4]
    exact ok_apply hf hT hW h0 hb hn he hl k4
  rw [if_neg k4]
  by_cases k5 : tr 0 n = 5
  · rw [if_pos k5]
    exact ok_record hf hT hW h0 hb hn he hl k5
  rw [if_neg k5]
  by_cases k6 : tr 0 n = 6
  · rw [if_pos k6]
    exact ok_field hf hT hW h0 hb hn he hl k6
  rw [if_neg k6]
  by_cases k7 : tr 0 n = 7
  · rw [if_pos k7]
    exact ok_let hf hT hW h0 hb hn he hl k7
  rw [if_neg k7]
  by_cases k8 : tr 0 n = 8
  · rw [if_pos k8]
    exact ok_rec hf hT hW h0 hb hn he hl k8
  rw [if_neg k8]
  by_cases k9 : tr 0 n = 9
  · rw [if_pos k9]
    exact ok_pick hf hT hW h0 hb hn he hl k9
  rw [if_neg k9]
  exact ok_two hf hT hW h0 hb hn he hl (by omega)
theorem wmx_ok (hT : wmT tr N dp) (mk : Nat → Int32) (al : Nat) : ∀ k, wmF tr N dp al (wmx tr mk al k)
  | 0 => fun s n e hW h0 hb hn he hl => wmP.halt hW hb (by decide)
  | k + 1 => fun s n e hW h0 hb hn he hl => by
    show wmP tr N dp al s 0 (if al ≤ bgn s then wmh s 2 n else wmd tr mk (wmx tr mk al k) (wmb s) n e)
    by_cases h : al ≤ bgn s
    · rw [if_pos h]
      exact wmP.halt hW hb (by decide)
    · rw [if_neg h]
      have x1 : Xt s (wmb s) := x_wmq (by decide)
      obtain ⟨w2, x2, c2, v2⟩ := ok_wmd (mk := mk) (wmx_ok hT mk al k) hT (s := wmb s) (w_wmq hW (by decide)) h0 (show bgn s + 1 ≤ al by omega) hn he (by rw [x1.eln he]; exact hl)
      refine ⟨w2, x1.tr x2, ?_, v2⟩
      have e1 : bgn (wmb s) = bgn s + 1 := rfl
      have e2 : wnv (wmb s) = wnv s := rfl
      have e3 : ne (wmb s) = ne s := rfl
      unfold wmC at c2 ⊢
      omega
end WA
section WH
variable {tr : aM} {f : wmS → Nat → Nat → wmS × Nat} {s : wmS} {n e : Nat} {mk : Nat → Int32}
theorem h2_list (hf : ∀ s n e, hlt s ≤ 2 → hlt (f s n e).1 ≤ 2) : ∀ (ns : List Nat) (s : wmS), hlt s ≤ 2 → hlt (wml (fun s n => f s n e) s ns).1 ≤ 2
  | [], s, h => h
  | n :: ns, s, h => by
    unfold wml
    by_cases hh : hlt (f s n e).1 = 0
    · rw [if_pos hh]
      exact h2_list hf ns _ (hf _ _ _ h)
    · rw [if_neg hh]
      exact hf _ _ _ h
theorem h2_ite {c : Prop} [Decidable c] {a b : wmS × Nat} (ha : hlt a.1 ≤ 2) (hb : hlt b.1 ≤ 2) : hlt (if c then a else b).1 ≤ 2 := by
  by_cases h : c
  · rw [if_pos h]
    exact ha
  · rw [if_neg h]
    exact hb
theorem h2_wmd (hf : ∀ s n e, hlt s ≤ 2 → hlt (f s n e).1 ≤ 2) (h : hlt s ≤ 2) : hlt (wmd tr mk f s n e).1 ≤ 2 := by
  have hw : ∀ (s : wmS) (n : Nat), hlt (wmh s 1 n).1 ≤ 2 := fun s n => show 1 ≤ 2 by decide
  have hl := h2_list (e := e) hf ((List.range (tr 2 n)).map (fun i => tr (10 + i) n)) s h
  unfold wmd wmName wmApply wmApply2 wmApply3 wmRecord wmRec2 wmField wmField2 wmLet wmRecc wmPick wmPick2 wmTwo wmTwo2 wmTwo3
  repeat' apply h2_ite
  all_goals first | exact hw _ _ | exact h | exact hl | exact hf _ _ _ h | exact hf _ _ _ (hf _ _ _ h) | exact hf _ _ _ (hf _ _ _ (hf _ _ _ h))
theorem wmx_h2 (tr : aM) (mk : Nat → Int32) (al : Nat) : ∀ k s n e, hlt s ≤ 2 → hlt (wmx tr mk al k s n e).1 ≤ 2
  | 0, s, n, e, h => show 2 ≤ 2 by decide
  | k + 1, s, n, e, h => by
    show hlt (if al ≤ bgn s then wmh s 2 n else wmd tr mk (wmx tr mk al k) (wmb s) n e).1 ≤ 2
    by_cases hb : al ≤ bgn s
    · rw [if_pos hb]
      exact Nat.le_refl 2
    · rw [if_neg hb]
      exact h2_wmd (fun s n e h => wmx_h2 tr mk al k s n e h) h
end WH
def wm0 : wmS := (fun _ _ => 0, fun _ => 0, fun _ => [])
theorem wm0_W {tr : aM} {N : Nat} {dp : Nat → Nat} : wmW tr N dp wm0 := ⟨fun v h => absurd h (Nat.not_lt_zero _), fun v h => absurd h (Nat.not_lt_zero _)⟩
/-- what work(x, al) comes to -/
def wmo (tr : aM) (mk : Nat → Int32) (al n : Nat) : wmS × Nat := wmx tr mk al 60 wm0 n 0
def wmpl9 (r : wmS × Nat) : Int32 := if hlt r.1 = 0 then -9 else nI (plc r.1)
