/-! ===== a TYPE told: what is due, frame by frame ===== -/
section TU
variable {z : aS} {w : Nat → Bool} {t y : Nat} {L : List Int32}
theorem lpq1 {b : Int32} (hf : L.length < 400) : (lput 400 L b).length = L.length + 1 := by
  rw [lput_lt hf, List.length_append]
  rfl
theorem lp400 {b : Int32} (hf : L.length < 400) : (lput 400 L b).length ≤ 400 ∧ 401 ≤ 400 + (lput 400 L b).length := by
  rw [lpq1 hf]
  omega
theorem tl_k0 {k : Nat} (hf : L.length < 400) (h : srt z t = 0) : tl z (k + 1) w t y L = lput 400 L (b8 (if t = 0 then 119 else 116)) := (if_pos hf).trans (if_pos h)
theorem tl_k1 {k : Nat} (hf : L.length < 400) (h : srt z t = 1) : tl z (k + 1) w t y L = tl z k w (two z t) y (tl z k w (one z t) (1 - y) (lput 400 L (b8 62))) := (if_pos hf).trans ((if_neg (by omega)).trans (if_pos h))
theorem tl_k2 {k : Nat} (hf : L.length < 400) (h : srt z t = 2) : tl z (k + 1) w t y L = lput 400 (tlf (fun p L => tl z k w p y L) (labs z t) (parts z t) (parts z t).length 0 (lput 400 L (b8 123))) (b8 125) := (if_pos hf).trans ((if_neg (by omega)).trans ((if_neg (by omega)).trans (if_pos h)))
theorem tl_k3a {k : Nat} (hf : L.length < 400) (h : srt z t = 3) (h3 : (row z y t).length = 0 ∨ w (2 * one z t + y) = true) : tl z (k + 1) w t y L = tln (one z t) L := (if_pos hf).trans ((if_neg (by omega)).trans ((if_neg (by omega)).trans ((if_neg (by omega)).trans (if_pos h3))))
theorem tl_k3b {k : Nat} (hf : L.length < 400) (h : srt z t = 3) (h3 : ¬ ((row z y t).length = 0 ∨ w (2 * one z t + y) = true)) : tl z (k + 1) w t y L = lput 400 (tlb (fun p L => tl z k (wor w (2 * one z t + y)) p y L) (row z y t) (row z y t).length 0 (tln (one z t) (lput 400 L (b8 (if y = 0 then 124 else 38))))) (b8 46) := (if_pos hf).trans ((if_neg (by omega)).trans ((if_neg (by omega)).trans ((if_neg (by omega)).trans (if_neg h3))))
theorem tl_e0 (hf : L.length < 400) (h : srt z t = 0) : tl z 401 w t y L = lput 400 L (b8 (if t = 0 then 119 else 116)) := tl_k0 (k := 400) hf h
theorem tl_up {q p : Nat} {v : Nat → Bool} {M : List Int32} (h1 : M.length ≤ 400) (h2 : 1 ≤ M.length) : tl z 400 v q p M = tl z 401 v q p M := tl_fuel 400 401 v q p M h1 (by omega) (by omega)
theorem tl_e1 (hf : L.length < 400) (h : srt z t = 1) : tl z 401 w t y L = tl z 401 w (two z t) y (tl z 401 w (one z t) (1 - y) (lput 400 L (b8 62))) := by
  have e : tl z 401 w t y L = tl z 400 w (two z t) y (tl z 400 w (one z t) (1 - y) (lput 400 L (b8 62))) := tl_k1 (k := 400) hf h
  obtain ⟨a, b⟩ := lp400 (b := b8 62) hf
  obtain ⟨c, d⟩ := tl_len (z := z) 401 w (one z t) (1 - y) _ a
  rw [e, tl_up a (by omega), tl_up c (by omega)]
theorem tl_e2 (hf : L.length < 400) (h : srt z t = 2) : tl z 401 w t y L = lput 400 (tlf (fun p L => tl z 401 w p y L) (labs z t) (parts z t) (parts z t).length 0 (lput 400 L (b8 123))) (b8 125) := by
  have e : tl z 401 w t y L = lput 400 (tlf (fun p L => tl z 400 w p y L) (labs z t) (parts z t) (parts z t).length 0 (lput 400 L (b8 123))) (b8 125) := tl_k2 (k := 400) hf h
  obtain ⟨a, b⟩ := lp400 (b := b8 123) hf
  rw [e, tlf_cg (c := 1) (g := fun p L => tl z 400 w p y L) (g' := fun p L => tl z 401 w p y L) (fun p L' h1 h2 => tl_up h1 h2) (fun p L' h1 => tl_len 400 w p y L' h1) (parts z t).length 0 _ a (by omega)]
theorem tl_e3a (hf : L.length < 400) (h : srt z t = 3) (h3 : (row z y t).length = 0 ∨ w (2 * one z t + y) = true) : tl z 401 w t y L = tln (one z t) L := tl_k3a (k := 400) hf h h3
theorem tl_e3b (hf : L.length < 400) (h : srt z t = 3) (h3 : ¬ ((row z y t).length = 0 ∨ w (2 * one z t + y) = true)) : tl z 401 w t y L = lput 400 (tlb (fun p L => tl z 401 (wor w (2 * one z t + y)) p y L) (row z y t) (row z y t).length 0 (tln (one z t) (lput 400 L (b8 (if y = 0 then 124 else 38))))) (b8 46) := by
  have e : tl z 401 w t y L = lput 400 (tlb (fun p L => tl z 400 (wor w (2 * one z t + y)) p y L) (row z y t) (row z y t).length 0 (tln (one z t) (lput 400 L (b8 (if y = 0 then 124 else 38))))) (b8 46) := tl_k3b (k := 400) hf h h3
  obtain ⟨a, b⟩ := lp400 (b := b8 (if y = 0 then 124 else 38)) hf
  obtain ⟨c, d⟩ := tln_len (v := one z t) a
  rw [e, tlb_cg (c := 1) (g := fun p L => tl z 400 (wor w (2 * one z t + y)) p y L) (g' := fun p L => tl z 401 (wor w (2 * one z t + y)) p y L) (fun p L' h1 h2 => tl_up h1 h2) (fun p L' h1 => tl_len 400 _ p y L' h1) (row z y t).length 0 _ c (by omega)]
/-! the class's stack -/
def wsk (z : aS) : List (Nat × Nat × Nat) → Nat → Bool
  | [] => fun _ => false
  | f :: st => if srt z f.1 = 3 then wor (wsk z st) (2 * one z f.1 + f.2.1) else wsk z st
def fr (z : aS) (w : Nat → Bool) (t y p : Nat) (L : List Int32) : List Int32 := if srt z t = 1 then (if p = 0 then tl z 401 w (two z t) y (tl z 401 w (one z t) (1 - y) L) else if p = 1 then tl z 401 w (two z t) y L else L) else if srt z t = 2 then lput 400 (tlf (fun q L => tl z 401 w q y L) (labs z t) (parts z t) ((parts z t).length - p) p L) (b8 125) else lput 400 (tlb (fun q L => tl z 401 w q y L) (row z y t) ((row z y t).length - p) p L) (b8 46)
def rsm (z : aS) : List (Nat × Nat × Nat) → List Int32 → List Int32
  | [], L => L
  | f :: st, L => rsm z st (fr z (wsk z (f :: st)) f.1 f.2.1 f.2.2 L)
theorem fr_full {p : Nat} (h : ¬ L.length < 400) : fr z w t y p L = L := by
  unfold fr
  by_cases h1 : srt z t = 1
  · rw [if_pos h1, tl_full h]
    by_cases p0 : p = 0
    · rw [if_pos p0, tl_full h]
    · rw [if_neg p0]
      by_cases p1 : p = 1
      · rw [if_pos p1, tl_full h]
      · rw [if_neg p1]
  · rw [if_neg h1]
    by_cases h2 : srt z t = 2
    · rw [if_pos h2, tlf_full (fun _ _ hh => tl_full hh) _ _ _ h, lput_full h]
    · rw [if_neg h2, tlb_full (fun _ _ hh => tl_full hh) _ _ _ h, lput_full h]
theorem rsm_full : ∀ (st : List (Nat × Nat × Nat)) (L : List Int32), ¬ L.length < 400 → rsm z st L = L
  | [], _, _ => rfl
  | f :: st, L, h => by
    show rsm z st (fr z (wsk z (f :: st)) f.1 f.2.1 f.2.2 L) = L
    rw [fr_full h]
    exact rsm_full st L h
theorem rsm_c {t y p : Nat} {st : List (Nat × Nat × Nat)} : rsm z ((t, y, p) :: st) L = rsm z st (fr z (wsk z ((t, y, p) :: st)) t y p L) := rfl
theorem wst_p {t y p p' : Nat} {st : List (Nat × Nat × Nat)} : wsk z ((t, y, p) :: st) = wsk z ((t, y, p') :: st) := rfl
variable {st : List (Nat × Nat × Nat)} {p : Nat}
theorem rs1a (h : srt z t = 1) : rsm z ((t, y, 0) :: st) L = rsm z ((t, y, 1) :: st) (tl z 401 (wsk z ((t, y, 1) :: st)) (one z t) (1 - y) L) := by
  rw [rsm_c, rsm_c, wst_p (p := 0) (p' := 1)]
  unfold fr
  rw [if_pos h, if_pos h, if_pos rfl, if_neg (by decide), if_pos rfl]
theorem rs1b (h : srt z t = 1) : rsm z ((t, y, 1) :: st) L = rsm z ((t, y, 2) :: st) (tl z 401 (wsk z ((t, y, 2) :: st)) (two z t) y L) := by
  rw [rsm_c, rsm_c, wst_p (p := 1) (p' := 2)]
  unfold fr
  rw [if_pos h, if_pos h, if_neg (by decide), if_pos rfl, if_neg (by decide), if_neg (by decide)]
theorem rs1c (h : srt z t = 1) (h0 : p ≠ 0) (h1 : p ≠ 1) : rsm z ((t, y, p) :: st) L = rsm z st L := by
  rw [rsm_c]
  unfold fr
  rw [if_pos h, if_neg h0, if_neg h1]
theorem rs2a (h : srt z t = 2) (hp : p < (parts z t).length) : rsm z ((t, y, p) :: st) L = rsm z ((t, y, p + 1) :: st) (tl z 401 (wsk z ((t, y, p + 1) :: st)) ((parts z t).getD p 0) y (lput 400 L (b8 (nI (97 + (labs z t).getD p 0))))) := by
  rw [rsm_c, rsm_c, wst_p (p := p) (p' := p + 1)]
  unfold fr
  obtain ⟨m, hm⟩ : ∃ m, (parts z t).length - p = m + 1 := ⟨(parts z t).length - p - 1, by omega⟩
  rw [if_neg (by omega), if_pos h, if_neg (by omega), if_pos h, show (parts z t).length - (p + 1) = m by omega, hm]
  rfl
theorem rs2b (h : srt z t = 2) (hp : ¬ p < (parts z t).length) : rsm z ((t, y, p) :: st) L = rsm z st (lput 400 L (b8 125)) := by
  rw [rsm_c]
  unfold fr
  rw [if_neg (by omega), if_pos h, show (parts z t).length - p = 0 by omega]
  rfl
theorem rs3a (h : srt z t = 3) (hp : p < (row z y t).length) : rsm z ((t, y, p) :: st) L = rsm z ((t, y, p + 1) :: st) (tl z 401 (wsk z ((t, y, p + 1) :: st)) ((row z y t).getD p 0) y L) := by
  rw [rsm_c, rsm_c, wst_p (p := p) (p' := p + 1)]
  unfold fr
  obtain ⟨m, hm⟩ : ∃ m, (row z y t).length - p = m + 1 := ⟨(row z y t).length - p - 1, by omega⟩
  rw [if_neg (by omega), if_neg (by omega), if_neg (by omega), if_neg (by omega), show (row z y t).length - (p + 1) = m by omega, hm]
  rfl
theorem rs3b (h : srt z t = 3) (hp : ¬ p < (row z y t).length) : rsm z ((t, y, p) :: st) L = rsm z st (lput 400 L (b8 46)) := by
  rw [rsm_c]
  unfold fr
  rw [if_neg (by omega), if_neg (by omega), show (row z y t).length - p = 0 by omega]
  rfl
/-! begin -/
theorem bg0 (h : srt z t = 0) : rsm z st (tl z 401 w t y L) = rsm z st (lput 400 L (b8 (if t = 0 then 119 else 116))) := by
  by_cases hf : L.length < 400
  · rw [tl_e0 hf h]
  · rw [tl_full hf, lput_full hf]
theorem bg1 (h : srt z t = 1) : rsm z st (tl z 401 (wsk z st) t y L) = rsm z ((t, y, 0) :: st) (lput 400 L (b8 62)) := by
  by_cases hf : L.length < 400
  · rw [tl_e1 hf h, rsm_c, show wsk z ((t, y, 0) :: st) = wsk z st from if_neg (by rw [h]; decide)]
    unfold fr
    rw [if_pos h, if_pos rfl]
  · rw [tl_full hf, lput_full hf, rsm_full _ _ hf, rsm_full _ _ hf]
theorem bg2 (h : srt z t = 2) : rsm z st (tl z 401 (wsk z st) t y L) = rsm z ((t, y, 0) :: st) (lput 400 L (b8 123)) := by
  by_cases hf : L.length < 400
  · rw [tl_e2 hf h, rsm_c, show wsk z ((t, y, 0) :: st) = wsk z st from if_neg (by rw [h]; decide)]
    unfold fr
    rw [if_neg (by omega), if_pos h, Nat.sub_zero]
  · rw [tl_full hf, lput_full hf, rsm_full _ _ hf, rsm_full _ _ hf]
theorem bg3a (h : srt z t = 3) (h3 : (row z y t).length = 0 ∨ w (2 * one z t + y) = true) : rsm z st (tl z 401 w t y L) = rsm z st (tln (one z t) L) := by
  by_cases hf : L.length < 400
  · rw [tl_e3a hf h h3]
  · rw [tl_full hf, tln_full hf]
theorem bg3b (h : srt z t = 3) (h3 : ¬ ((row z y t).length = 0 ∨ wsk z st (2 * one z t + y) = true)) : rsm z st (tl z 401 (wsk z st) t y L) = rsm z ((t, y, 0) :: st) (tln (one z t) (lput 400 L (b8 (if y = 0 then 124 else 38)))) := by
  by_cases hf : L.length < 400
  · rw [tl_e3b hf h h3, rsm_c, show wsk z ((t, y, 0) :: st) = wor (wsk z st) (2 * one z t + y) from if_pos h]
    unfold fr
    rw [if_neg (show ¬ srt z t = 1 by omega), if_neg (show ¬ srt z t = 2 by omega), Nat.sub_zero]
  · rw [tl_full hf, lput_full hf, tln_full hf, rsm_full _ _ hf, rsm_full _ _ hf]
end TU
/-! the class's rows hold the stack -/
def ST (S : cS) : List (Nat × Nat × Nat) → Prop
  | [] => True
  | f :: st => (kF S 19 st.length = nI f.1 ∧ kF S 20 st.length = nI f.2.1 ∧ kF S 21 st.length = nI f.2.2) ∧ ST S st
def SV (z : aS) : List (Nat × Nat × Nat) → Prop
  | [] => True
  | f :: st => (f.1 < nT z ∧ f.2.1 < 2 ∧ srt z f.1 ≠ 0 ∧ (srt z f.1 = 3 → wsk z st (2 * one z f.1 + f.2.1) = false)) ∧ SV z st
/-! how far a frame can be -/
def bd9 (z : aS) (f : Nat × Nat × Nat) : Nat := if srt z f.1 = 1 then 2 else if srt z f.1 = 2 then (parts z f.1).length else (row z f.2.1 f.1).length
def SP (z : aS) : List (Nat × Nat × Nat) → Prop
  | [] => True
  | f :: st => f.2.2 ≤ bd9 z f ∧ SP z st
theorem bd_1 {z : aS} {t y p : Nat} (h : srt z t = 1) : bd9 z (t, y, p) = 2 := if_pos h
theorem bd_2 {z : aS} {t y p : Nat} (h : srt z t = 2) : bd9 z (t, y, p) = (parts z t).length := (if_neg (show ¬ srt z t = 1 by omega)).trans (if_pos h)
theorem bd_3 {z : aS} {t y p : Nat} (h : srt z t = 3) : bd9 z (t, y, p) = (row z y t).length := (if_neg (show ¬ srt z t = 1 by omega)).trans (if_neg (show ¬ srt z t = 2 by omega))
theorem sp_bg {z : aS} {s2 A : List (Nat × Nat × Nat)} {t y : Nat} (o : s2 = A ∨ s2 = (t, y, 0) :: A) (h : SP z A) : SP z s2 := by
  rcases o with e | e
  · rw [e]
    exact h
  · rw [e]
    exact ⟨Nat.zero_le _, h⟩
theorem len_bg {s2 A : List (Nat × Nat × Nat)} {t y : Nat} (o : s2 = A ∨ s2 = (t, y, 0) :: A) : s2.length ≤ A.length + 1 := by
  rcases o with e | e
  · rw [e]
    exact Nat.le_succ _
  · rw [e]
    exact Nat.le_refl _
theorem ls_c {s : List (Nat × Nat × Nat)} (h : s.length ≠ 0) : ∃ t y p s', s = (t, y, p) :: s' := by
  cases s with
  | nil => exact absurd rfl h
  | cons f s' => exact ⟨f.1, f.2.1, f.2.2, s', rfl⟩
theorem wst_f {z : aS} {st : List (Nat × Nat × Nat)} {t y p : Nat} (h : srt z t ≠ 3) : wsk z ((t, y, p) :: st) = wsk z st := if_neg h
theorem wst_v {z : aS} {st : List (Nat × Nat × Nat)} {t y p : Nat} (h : srt z t = 3) : wsk z ((t, y, p) :: st) = wor (wsk z st) (2 * one z t + y) := if_pos h
theorem rs1a' {z : aS} {st : List (Nat × Nat × Nat)} {t y p w : Nat} {L : List Int32} (h : srt z t = 1) (hp : p = 0) (hw : w = 1 - y) : rsm z ((t, y, p) :: st) L = rsm z ((t, y, p + 1) :: st) (tl z 401 (wsk z ((t, y, p + 1) :: st)) (one z t) w L) := by
  subst hp
  subst hw
  exact rs1a h
theorem rs1b' {z : aS} {st : List (Nat × Nat × Nat)} {t y p : Nat} {L : List Int32} (h : srt z t = 1) (hp : p = 1) : rsm z ((t, y, p) :: st) L = rsm z ((t, y, p + 1) :: st) (tl z 401 (wsk z ((t, y, p + 1) :: st)) (two z t) y L) := by
  subst hp
  exact rs1b h
def SO (S : cS) (w : Nat → Bool) : Prop := kK S 22 = 300 ∧ ∀ a, a < 300 → (kF S 22 a = 1 ↔ w a = true)
theorem ST.to {S u : cS} : ∀ {st : List (Nat × Nat × Nat)}, ST S st → (∀ r, r ∈ [19, 20, 21] → ∀ j, j < st.length → kF u r j = kF S r j) → ST u st
  | [], _, _ => trivial
  | f :: st, h, e => by
    obtain ⟨⟨a, b, c⟩, d⟩ := h
    refine ⟨⟨(e 19 (by decide) _ (Nat.lt_succ_self _)).trans a, (e 20 (by decide) _ (Nat.lt_succ_self _)).trans b, (e 21 (by decide) _ (Nat.lt_succ_self _)).trans c⟩, d.to (fun r hr j hj => e r hr j (Nat.lt_succ_of_lt hj))⟩
