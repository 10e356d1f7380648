/-! ===== TYPING's cases, step by step ===== -/
theorem ty_0 {tr : aM} {top k n l : Nat} {z : aS} (h0 : sto z = 0) (hk : tr 0 n = 0) : ty tr top (k + 1) z n l = (z, 0) := by
  rw [ty, if_neg (not_not_intro h0), hk]
  rfl
theorem ty_1 {tr : aM} {top k n l : Nat} {z : aS} (h0 : sto z = 0) (hk : tr 0 n = 1) : ty tr top (k + 1) z n l = (z, 1) := by
  rw [ty, if_neg (not_not_intro h0), hk]
  rfl
theorem ty_2 {tr : aM} {top k n l : Nat} {z : aS} (h0 : sto z = 0) (hk : tr 0 n = 2) : ty tr top (k + 1) z n l = tyName tr top z n l := by
  rw [ty, if_neg (not_not_intro h0), hk]
  rfl
theorem ty_3 {tr : aM} {top k n l : Nat} {z : aS} (h0 : sto z = 0) (hk : tr 0 n = 3) : ∃ Y1 Y2 Y3 Y4 Y5, Y1 = fresh z n l ∧ Y2 = gives Y1.1 n Y1.2 0 ∧ Y3 = ty tr top k Y2 (tr 10 n) l ∧ Y4 = w1 Y3.1 0 5 n ∧ Y5 = mkA Y4 Y1.2 Y3.2 ∧ ty tr top (k + 1) z n l = Y5 :=
  ⟨_, _, _, _, _, rfl, rfl, rfl, rfl, rfl, by rw [ty, if_neg (not_not_intro h0), hk]; rfl⟩
theorem ty_4 {tr : aM} {top k n l : Nat} {z : aS} (h0 : sto z = 0) (hk : tr 0 n = 4) : ∃ Y1 Y2 Y3 Y4 Y5, Y1 = ty tr top k z (tr 10 n) l ∧ Y2 = ty tr top k Y1.1 (tr 11 n) l ∧ Y3 = fresh Y2.1 n l ∧ Y4 = mkA Y3.1 Y2.2 Y3.2 ∧ Y5 = puts Y4.1 n Y1.2 Y4.2 ∧ ty tr top (k + 1) z n l = (Y5, Y3.2) :=
  ⟨_, _, _, _, _, rfl, rfl, rfl, rfl, rfl, by rw [ty, if_neg (not_not_intro h0), hk]; rfl⟩
theorem ty_6 {tr : aM} {top k n l : Nat} {z : aS} (h0 : sto z = 0) (hk : tr 0 n = 6) : ∃ Y1 Y2 Y3 Y4, Y1 = ty tr top k z (tr 10 n) l ∧ Y2 = fresh Y1.1 n l ∧ Y3 = mkR Y2.1 [tr 1 n] [Y2.2] ∧ Y4 = puts Y3.1 n Y1.2 Y3.2 ∧ ty tr top (k + 1) z n l = (Y4, Y2.2) :=
  ⟨_, _, _, _, rfl, rfl, rfl, rfl, by rw [ty, if_neg (not_not_intro h0), hk]; rfl⟩
theorem ty_7 {tr : aM} {top k n l : Nat} {z : aS} (h0 : sto z = 0) (hk : tr 0 n = 7) : ∃ Y1 Y2 Y3, Y1 = ty tr top k z (tr 10 n) (l + 1) ∧ Y2 = gives Y1.1 n Y1.2 (l + 1) ∧ Y3 = ty tr top k Y2 (tr 11 n) l ∧ ty tr top (k + 1) z n l = Y3 :=
  ⟨_, _, _, rfl, rfl, rfl, by rw [ty, if_neg (not_not_intro h0), hk]; rfl⟩
theorem ty_8 {tr : aM} {top k n l : Nat} {z : aS} (h0 : sto z = 0) (hk : tr 0 n = 8) : ∃ Y1 Y2 Y3 Y4 Y5 Y6, Y1 = fresh z n (l + 1) ∧ Y2 = gives Y1.1 n Y1.2 0 ∧ Y3 = ty tr top k Y2 (tr 10 n) (l + 1) ∧ Y4 = puts Y3.1 n Y3.2 Y1.2 ∧ Y5 = w1 Y4 9 n (l + 1) ∧ Y6 = ty tr top k Y5 (tr 11 n) l ∧ ty tr top (k + 1) z n l = Y6 :=
  ⟨_, _, _, _, _, _, rfl, rfl, rfl, rfl, rfl, rfl, by rw [ty, if_neg (not_not_intro h0), hk]; rfl⟩
theorem ty_9 {tr : aM} {top k n l : Nat} {z : aS} (h0 : sto z = 0) (hk : tr 0 n = 9) : ∃ Y1 Y2 Y3 Y4 Y5 Y6 Y7, Y1 = ty tr top k z (tr 10 n) l ∧ Y2 = puts Y1.1 n Y1.2 1 ∧ Y3 = fresh Y2 n l ∧ Y4 = ty tr top k Y3.1 (tr 11 n) l ∧ Y5 = puts Y4.1 n Y4.2 Y3.2 ∧ Y6 = ty tr top k Y5 (tr 12 n) l ∧ Y7 = puts Y6.1 n Y6.2 Y3.2 ∧ ty tr top (k + 1) z n l = (Y7, Y3.2) :=
  ⟨_, _, _, _, _, _, _, rfl, rfl, rfl, rfl, rfl, rfl, rfl, by rw [ty, if_neg (not_not_intro h0), hk]; rfl⟩
theorem ty_10 {tr : aM} {top k n l : Nat} {z : aS} (h0 : sto z = 0) (hk : tr 0 n = 10) : ∃ Y1 Y2 Y3 Y4, Y1 = ty tr top k z (tr 10 n) l ∧ Y2 = puts Y1.1 n Y1.2 0 ∧ Y3 = ty tr top k Y2 (tr 11 n) l ∧ Y4 = puts Y3.1 n Y3.2 0 ∧ ty tr top (k + 1) z n l = (Y4, 0) :=
  ⟨_, _, _, _, rfl, rfl, rfl, rfl, by rw [ty, if_neg (not_not_intro h0), hk]; rfl⟩
theorem ty_11 {tr : aM} {top k n l : Nat} {z : aS} (h0 : sto z = 0) (hk : tr 0 n = 11) : ∃ Y1 Y2 Y3 Y4, Y1 = ty tr top k z (tr 10 n) l ∧ Y2 = puts Y1.1 n Y1.2 0 ∧ Y3 = ty tr top k Y2 (tr 11 n) l ∧ Y4 = puts Y3.1 n Y3.2 0 ∧ ty tr top (k + 1) z n l = (Y4, 1) :=
  ⟨_, _, _, _, rfl, rfl, rfl, rfl, by rw [ty, if_neg (not_not_intro h0), hk]; rfl⟩
theorem ty_st {tr : aM} {top k n l : Nat} {z : aS} (h : sto z ≠ 0) : (ty tr top k z n l).1 = z := ty_stop k z n l h
theorem cnt_1 {tr : aM} {k n m : Nat} (hp : prts (tr 0 n) (tr 2 n) = 1) : cntT tr (k + 1) n = 1 + cntT tr k (tr 10 n) := by
  show 1 + _ = _
  rw [hp]
  rfl
theorem cnt_2 {tr : aM} {k n : Nat} (hp : prts (tr 0 n) (tr 2 n) = 2) : cntT tr (k + 1) n = 1 + (cntT tr k (tr 10 n) + cntT tr k (tr 11 n)) := by
  show 1 + _ = _
  rw [hp]
  show 1 + (cntT tr k (tr 10 n) + (cntT tr k (tr 11 n) + 0)) = _
  omega
theorem cnt_3 {tr : aM} {k n : Nat} (hp : prts (tr 0 n) (tr 2 n) = 3) : cntT tr (k + 1) n = 1 + (cntT tr k (tr 10 n) + (cntT tr k (tr 11 n) + cntT tr k (tr 12 n))) := by
  show 1 + _ = _
  rw [hp]
  show 1 + (cntT tr k (tr 10 n) + (cntT tr k (tr 11 n) + (cntT tr k (tr 12 n) + 0))) = _
  omega
theorem cnt_pos {tr : aM} {k n : Nat} : 1 ≤ cntT tr k n := by
  cases k with
  | zero => exact Nat.le_refl _
  | succ k => show 1 ≤ 1 + _; omega
/-- what covers a part, if its node gave -/
theorem Cv.part {P Q : Nat → Prop} {tr : aM} {top n p : Nat} (h : ∀ j, Cv P tr top j n) (hp : tr 3 p = n + 1) (hPQ : ∀ q, P q → Q q) (hb : covers tr n p → Q n) : ∀ j, Cv Q tr top j p := by
  have mono : ∀ j c, Cv P tr top j c → Cv Q tr top j c := by
    intro j
    induction j with
    | zero => intro c _; exact trivial
    | succ j ih =>
      intro c hc
      rcases hc with hc | hc | ⟨h1, h2⟩
      · exact Or.inl hc
      · exact Or.inr (Or.inl hc)
      · exact Or.inr (Or.inr ⟨fun h3 => hPQ _ (h1 h3), ih _ h2⟩)
  intro j
  cases j with
  | zero => exact trivial
  | succ j =>
    refine Or.inr (Or.inr ?_)
    have e : tr 3 p - 1 = n := by omega
    rw [e]
    exact ⟨hb, mono j n (h j)⟩
theorem HE.at {z z' : aS} {k hm : Nat} {o : Nat → Int32} {F : Nat → Nat → Int32} {u : mS} (h : HE z z' k o F u) (hh : o 39 = nI hm) (hl : hm + 6 * k < 2 ^ 31) : ∃ h1, u.1 39 = nI h1 ∧ (sto z' = 0 → h1 = hm) ∧ h1 ≤ hm + 6 * k := by
  obtain ⟨a1, a2, a3⟩ := h
  obtain ⟨h', g1, g2, g3, g4⟩ := a2 hm (by omega) hh
  refine ⟨h', g1, fun e => ?_, g3⟩
  have := a1 e
  rw [hh] at this
  exact (nI_eq (by omega) (by omega)).mp (g1.symm.trans this)
theorem tys_cpL {f : aS → Nat → aS × Nat} : ∀ (xs : List Nat) (s : aS), tys f s xs = cpL f s xs
  | [], s => rfl
  | x :: xs, s => by
    rw [tys, cpL, tys_cpL xs]
/-- a record's parts and labels -/
def pLs (tr : aM) (n : Nat) : List Nat := (List.range (tr 2 n)).map (fun i => tr (10 + i) n)
def lLs (tr : aM) (n : Nat) : List Nat := (List.range (tr 2 n)).map (fun i => tr (20 + i) n)
theorem pLs_len {tr : aM} {n : Nat} : (pLs tr n).length = tr 2 n := by simp [pLs]
theorem lLs_len {tr : aM} {n : Nat} : (lLs tr n).length = tr 2 n := by simp [lLs]
theorem pLs_at {tr : aM} {n i : Nat} (h : i < tr 2 n) : (pLs tr n).getD i 0 = tr (10 + i) n := by
  rw [gtD (by rw [pLs_len]; exact h)]
  simp [pLs]
theorem lLs_at {tr : aM} {n i : Nat} (h : i < tr 2 n) : (lLs tr n).getD i 0 = tr (20 + i) n := by
  rw [gtD (by rw [lLs_len]; exact h)]
  simp [lLs]
theorem ty_5 {tr : aM} {top k n l : Nat} {z : aS} (h0 : sto z = 0) (hk : tr 0 n = 5) : ty tr top (k + 1) z n l = if sto (cpL (fun s x => ty tr top k s x l) z (pLs tr n)).1 ≠ 0 then ((cpL (fun s x => ty tr top k s x l) z (pLs tr n)).1, 0) else mkR (w1 (cpL (fun s x => ty tr top k s x l) z (pLs tr n)).1 0 5 n) (lLs tr n) (cpL (fun s x => ty tr top k s x l) z (pLs tr n)).2 := by
  rw [ty, if_neg (not_not_intro h0), hk]
  show (if sto (tys (fun s x => ty tr top k s x l) z (pLs tr n)).1 ≠ 0 then ((tys (fun s x => ty tr top k s x l) z (pLs tr n)).1, 0) else mkR (w1 (tys (fun s x => ty tr top k s x l) z (pLs tr n)).1 0 5 n) (lLs tr n) (tys (fun s x => ty tr top k s x l) z (pLs tr n)).2) = _
  rw [tys_cpL]
def csum (tr : aM) (k n i : Nat) : Nat := ((List.range i).map (fun i => cntT tr k (tr (10 + i) n))).sum
theorem csum_s {tr : aM} {k n i : Nat} : csum tr k n (i + 1) = csum tr k n i + cntT tr k (tr (10 + i) n) := by
  unfold csum
  rw [List.range_succ, List.map_append, List.sum_append]
  simp
theorem csum_le {tr : aM} {k n : Nat} : ∀ {i m : Nat}, i ≤ m → csum tr k n i ≤ csum tr k n m := by
  intro i m h
  induction m with
  | zero =>
    obtain rfl : i = 0 := by omega
    exact Nat.le_refl _
  | succ m ih =>
    by_cases e : i = m + 1
    · rw [e]
      exact Nat.le_refl _
    · rw [csum_s]
      exact Nat.le_trans (ih (by omega)) (Nat.le_add_right _ _)
theorem csum_5 {tr : aM} {k n : Nat} (hk : tr 0 n = 5) : cntT tr (k + 1) n = 1 + csum tr k n (tr 2 n) := by
  show 1 + _ = _
  rw [show prts (tr 0 n) (tr 2 n) = tr 2 n by rw [hk]; rfl]
  rfl
