/-! ===== the machine of TYPING in the second program's numbers (o) and arrays (F) ===== -/
theorem gtD {α : Type} {l : List α} {i : Nat} {d : α} (h : i < l.length) : l.getD i d = l[i] := by simp [List.getD_eq_getElem?_getD, h]
theorem gtL {α : Type} {l m : List α} {i : Nat} {d : α} (h : i < l.length) : (l ++ m).getD i d = l.getD i d := by rw [List.getD_eq_getElem?_getD, List.getD_eq_getElem?_getD, List.getElem?_append_left h]
theorem gtR {α : Type} {l : List α} {x d : α} {n : Nat} (h : n = l.length) : (l ++ [x]).getD n d = x := by rw [List.getD_eq_getElem?_getD, h, List.getElem?_append_right (Nat.le_refl _)]; simp
theorem fput_s {F : Nat → Nat → Int32} {k j : Nat} {x : Int32} : fput F k j x k j = x := by simp [fput, upd]
theorem fput_k {F : Nat → Nat → Int32} {k j a b : Nat} {x : Int32} (h : a ≠ k) : fput F k j x a b = F a b := by simp [fput, h]
theorem fput_j {F : Nat → Nat → Int32} {k j b : Nat} {x : Int32} (h : b ≠ j) : fput F k j x k b = F k b := by simp [fput, upd, h]
def sc (n : Nat) : Int32 := if n = 0 then 0 else if n = 1 then -6 else -7
def wc (s : aS) : Int32 := if sto s = 0 then -9 else nI (s.1 0 4 - 1)
def R0 (s : aS) (o : Nat → Int32) : Prop := o 7 = nI (nT s) ∧ o 14 = nI (nV s) ∧ o 16 = nI (bnd s) ∧ o 26 = nI (stp s) ∧ o 27 = sc (sto s) ∧ o 24 = wc s ∧ o 25 = nI (askn s) ∧ o 28 = nI s.2.2.length
def RN (s : aS) : Prop := nT s ≤ 602 ∧ nV s ≤ 150 ∧ bnd s ≤ 200000 ∧ stp s ≤ 1500 ∧ sto s ≤ 2 ∧ askn s < 120 ∧ s.2.2.length ≤ stp s ∧ 2 ≤ nT s
def RT (s : aS) (F : Nat → Nat → Int32) : Prop := ∀ t, t < nT s → F 8 t = nI (srt s t) ∧ F 9 t = nI (lev s t) ∧ (srt s t ≤ 3 ∧ (srt s t = 0 → lev s t = 0)) ∧ lev s t ≤ 100
def RA (s : aS) (F : Nat → Nat → Int32) : Prop := ∀ t, t < nT s → srt s t = 1 → F 10 t = nI (one s t) ∧ F 11 t = nI (two s t) ∧ one s t < nT s ∧ two s t < nT s
def RR (s : aS) (F : Nat → Nat → Int32) : Prop := ∀ t, t < nT s → srt s t = 2 → F 10 t = nI (parts s t).length ∧ (labs s t).length = (parts s t).length ∧ (parts s t).length ≤ 6 ∧ ∀ i, i < (parts s t).length → F 12 (6 * t + i) = nI ((labs s t).getD i 0) ∧ F 13 (6 * t + i) = nI ((parts s t).getD i 0) ∧ (parts s t).getD i 0 < nT s ∧ (labs s t).getD i 0 < 26
def RV (s : aS) (F : Nat → Nat → Int32) : Prop := (∀ t, t < nT s → srt s t = 3 → F 10 t = nI (one s t) ∧ one s t < nV s ∧ s.1 6 (one s t) = t) ∧ ∀ v, v < nV s → F 15 v = nI (s.1 6 v) ∧ s.1 6 v < nT s ∧ srt s (s.1 6 v) = 3 ∧ one s (s.1 6 v) = v
/-- a row of types L, at places X of the pool -/
def Rw (b n : Nat) (L : List Nat) (X : Nat → Nat) (F : Nat → Nat → Int32) (q : Nat) : Prop := F 21 q = nI L.length ∧ (L.length = 0 → F 19 q = -9) ∧ (0 < L.length → F 19 q = nI (X 0) ∧ F 20 q = nI (X (L.length - 1))) ∧ L.length ≤ b ∧ ∀ i, i < L.length → X i < b ∧ F 17 (X i) = nI (L.getD i 0) ∧ L.getD i 0 < n ∧ F 18 (X i) = if i + 1 < L.length then nI (X (i + 1)) else -9
def RB (s : aS) (ix : Nat → Nat → Nat) (F : Nat → Nat → Int32) : Prop := ∀ v, v < nV s → ∀ sd, sd < 2 → Rw (bnd s) (nT s) (row s sd (s.1 6 v)) (ix (2 * v + sd)) F (2 * v + sd)
def RX (s : aS) (ix : Nat → Nat → Nat) : Prop := ∀ v, v < nV s → ∀ sd, sd < 2 → ∀ v', v' < nV s → ∀ sd', sd' < 2 → ∀ i, i < (row s sd (s.1 6 v)).length → ∀ i', i' < (row s sd' (s.1 6 v')).length → ix (2 * v + sd) i = ix (2 * v' + sd') i' → v = v' ∧ sd = sd' ∧ i = i'
def RQ (s : aS) (F : Nat → Nat → Int32) : Prop := ∀ i, i < s.2.2.length → F 29 i = nI (s.2.2.reverse.getD i (0, 0)).1 ∧ F 30 i = nI (s.2.2.reverse.getD i (0, 0)).2 ∧ (s.2.2.reverse.getD i (0, 0)).1 < nT s ∧ (s.2.2.reverse.getD i (0, 0)).2 < nT s
def MR (s : aS) (ix : Nat → Nat → Nat) (o : Nat → Int32) (F : Nat → Nat → Int32) : Prop := R0 s o ∧ RN s ∧ RT s F ∧ RA s F ∧ RR s F ∧ RV s F ∧ RB s ix F ∧ RX s ix ∧ RQ s F
/-- what a call leaves as it was: all fields and arrays that are not listed -/
def Kq (L : List Nat) (o : Nat → Int32) (F : Nat → Nat → Int32) (u : mS) : Prop := ∀ k, k ∉ L → u.1 k = o k ∧ u.2 k = F k
theorem Kq.rf {L : List Nat} {o : Nat → Int32} {F : Nat → Nat → Int32} : Kq L o F (o, F) := fun _ _ => ⟨rfl, rfl⟩
theorem Kq.o {L : List Nat} {o o1 : Nat → Int32} {F F1 : Nat → Nat → Int32} {j : Nat} {x : Int32} (h : Kq L o F (o1, F1)) (hj : j ∈ L) : Kq L o F (upd o1 j x, F1) := fun k hk => ⟨by
  have : k ≠ j := fun e => hk (e ▸ hj)
  show (if k = j then x else o1 k) = o k
  rw [if_neg this]
  exact (h k hk).1, (h k hk).2⟩
theorem Kq.F {L : List Nat} {o o1 : Nat → Int32} {F F1 : Nat → Nat → Int32} {j i : Nat} {x : Int32} (h : Kq L o F (o1, F1)) (hj : j ∈ L) : Kq L o F (o1, fput F1 j i x) := fun k hk => ⟨(h k hk).1, by
  have : k ≠ j := fun e => hk (e ▸ hj)
  show (if k = j then upd (F1 k) i x else F1 k) = F k
  rw [if_neg this]
  exact (h k hk).2⟩
theorem Kq.tr {L : List Nat} {o o1 : Nat → Int32} {F F1 : Nat → Nat → Int32} {u : mS} (h : Kq L o F (o1, F1)) (h' : Kq L o1 F1 u) : Kq L o F u := fun k hk => ⟨(h' k hk).1.trans (h k hk).1, (h' k hk).2.trans (h k hk).2⟩
theorem Kq.mono {L L' : List Nat} {o : Nat → Int32} {F : Nat → Nat → Int32} {u : mS} (h : Kq L o F u) (hL : ∀ k ∈ L, k ∈ L') : Kq L' o F u := fun k hk => h k (fun h1 => hk (hL k h1))
/-- the rows that there were: their places stay -/
def Px (s : aS) (ix ix' : Nat → Nat → Nat) : Prop := ∀ v, v < nV s → ∀ sd, sd < 2 → ∀ i, i < (row s sd (s.1 6 v)).length → ix' (2 * v + sd) i = ix (2 * v + sd) i
theorem sc_0 {n : Nat} : sc n = 0 ↔ n = 0 := by
  unfold sc
  by_cases h : n = 0
  · simp [h]
  · rw [if_neg h]
    by_cases h1 : n = 1
    · rw [if_pos h1]
      exact ⟨fun h2 => absurd h2 (by decide), fun h2 => absurd h2 h⟩
    · rw [if_neg h1]
      exact ⟨fun h2 => absurd h2 (by decide), fun h2 => absurd h2 h⟩
/-! what an asking, a step, a stop does -/
theorem MR.r_stops {s : aS} {ix : Nat → Nat → Nat} {o : Nat → Int32} {F : Nat → Nat → Int32} {w p : Nat} (h : MR s ix o F) (hw : w = 1 ∨ w = 2) (hp : p < 120) (h0 : sto s = 0) : MR (stops s w p) ix (upd (upd o 27 (sc w)) 24 (nI p)) F := by
  obtain ⟨⟨a1, a2, a3, a4, a5, a6, a7, a8⟩, ⟨b1, b2, b3, b4, b5, b6, b7, b8⟩, h3⟩ := h
  have e : stops s w p = w1 (w1 s 0 3 w) 0 4 (p + 1) := if_pos h0
  rw [e]
  refine ⟨⟨a1, a2, a3, a4, rfl, ?_, a7, a8⟩, ⟨b1, b2, b3, b4, ?_, b6, b7, b8⟩, h3⟩
  · show nI p = wc _
    have e2 : sto (w1 (w1 s 0 3 w) 0 4 (p + 1)) = w := rfl
    unfold wc
    rw [e2, if_neg (by omega)]
    rfl
  · show w ≤ 2
    omega
theorem stops_no {s : aS} {w p : Nat} (h0 : sto s ≠ 0) : stops s w p = s := if_neg h0
theorem MR.r_askn {s : aS} {ix : Nat → Nat → Nat} {o : Nat → Int32} {F : Nat → Nat → Int32} {n : Nat} (h : MR s ix o F) (hp : n < 120) : MR (w1 s 0 5 n) ix (upd o 25 (nI n)) F := by
  obtain ⟨⟨a1, a2, a3, a4, a5, a6, a7, a8⟩, ⟨b1, b2, b3, b4, b5, b6, b7, b8⟩, h3⟩ := h
  exact ⟨⟨a1, a2, a3, a4, a5, a6, rfl, a8⟩, ⟨b1, b2, b3, b4, b5, hp, b7, b8⟩, h3⟩
theorem MR.r_step {s : aS} {ix : Nat → Nat → Nat} {o : Nat → Int32} {F : Nat → Nat → Int32} (h : MR s ix o F) (hp : stp s ≠ 1500) : MR (w1 s 0 2 (stp s + 1)) ix (upd o 26 (nI (stp s + 1))) F := by
  obtain ⟨⟨a1, a2, a3, a4, a5, a6, a7, a8⟩, ⟨b1, b2, b3, b4, b5, b6, b7, b8⟩, h3⟩ := h
  refine ⟨⟨a1, a2, a3, rfl, a5, a6, a7, a8⟩, ⟨b1, b2, b3, ?_, b5, b6, ?_, b8⟩, h3⟩
  · show stp s + 1 ≤ 1500
    omega
  · show s.2.2.length ≤ stp s + 1
    omega
theorem MR.r_asked {s : aS} {ix : Nat → Nat → Nat} {o : Nat → Int32} {F : Nat → Nat → Int32} {a b : Nat} (h : MR s ix o F) (hp : s.2.2.length < stp s) (ha : a < nT s) (hb : b < nT s) : MR (asked s a b) ix (upd o 28 (nI (s.2.2.length + 1))) (fput (fput F 29 s.2.2.length (nI a)) 30 s.2.2.length (nI b)) := by
  obtain ⟨⟨a1, a2, a3, a4, a5, a6, a7, a8⟩, ⟨b1, b2, b3, b4, b5, b6, b7, b8⟩, c1, c2, c3, c4, c5, c6, c7⟩ := h
  refine ⟨⟨a1, a2, a3, a4, a5, a6, a7, ?_⟩, ⟨b1, b2, b3, b4, b5, b6, ?_, b8⟩, c1, c2, c3, c4, c5, c6, ?_⟩
  · show nI (s.2.2.length + 1) = nI ((a, b) :: s.2.2).length
    rfl
  · show ((a, b) :: s.2.2).length ≤ stp s
    simp only [List.length_cons]
    omega
  · intro i hi
    have e : (asked s a b).2.2 = (a, b) :: s.2.2 := rfl
    rw [e] at hi ⊢
    have hn : nT (asked s a b) = nT s := rfl
    rw [hn]
    simp only [List.length_cons] at hi
    rw [List.reverse_cons]
    rcases Nat.lt_or_ge i s.2.2.length with h1 | h1
    · have e3 : (s.2.2.reverse ++ [(a, b)]).getD i (0, 0) = s.2.2.reverse.getD i (0, 0) := by
        rw [gtL (by simpa using h1)]
      rw [e3]
      have e1 : fput (fput F 29 s.2.2.length (nI a)) 30 s.2.2.length (nI b) 29 i = F 29 i := by
        rw [fput_k (by decide), fput_j (by omega)]
      have e2 : fput (fput F 29 s.2.2.length (nI a)) 30 s.2.2.length (nI b) 30 i = F 30 i := by
        rw [fput_j (by omega), fput_k (by decide)]
      rw [e1, e2]
      exact c7 i h1
    · obtain rfl : i = s.2.2.length := by omega
      have e3 : (s.2.2.reverse ++ [(a, b)]).getD s.2.2.length (0, 0) = (a, b) := by
        rw [gtR (by simp)]
      rw [e3]
      have e1 : fput (fput F 29 s.2.2.length (nI a)) 30 s.2.2.length (nI b) 29 s.2.2.length = nI a := by
        rw [fput_k (by decide), fput_s]
      rw [e1, fput_s]
      exact ⟨rfl, rfl, ha, hb⟩
/-- asked before: the pairs' rows say so -/
theorem RQ.mem {s : aS} {F : Nat → Nat → Int32} {a b : Nat} (h : RQ s F) (hn : nT s ≤ 602) (ha : a < nT s) (hb : b < nT s) : (a, b) ∈ s.2.2 ↔ ∃ i, i < s.2.2.length ∧ F 29 i = nI a ∧ F 30 i = nI b := by
  constructor
  · intro hm
    obtain ⟨i, hi, e⟩ := List.getElem_of_mem (List.mem_reverse.mpr hm)
    rw [List.length_reverse] at hi
    obtain ⟨h1, h2, -⟩ := h i hi
    have e2 : s.2.2.reverse.getD i (0, 0) = (a, b) := by
      rw [gtD (by simpa using hi)]
      exact e
    rw [e2] at h1 h2
    exact ⟨i, hi, h1, h2⟩
  · rintro ⟨i, hi, h1, h2⟩
    obtain ⟨h3, h4, h5, h6⟩ := h i hi
    have e1 := (nI_eq (by omega) (by omega)).mp (h3.symm.trans h1)
    have e2 := (nI_eq (by omega) (by omega)).mp (h4.symm.trans h2)
    have hl : i < s.2.2.reverse.length := by simpa using hi
    rw [gtD hl] at e1 e2
    have : s.2.2.reverse[i] = (a, b) := Prod.ext e1 e2
    rw [← List.mem_reverse, ← this]
    exact List.getElem_mem hl
