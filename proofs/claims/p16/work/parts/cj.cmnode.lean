/-! ===== the second program's node, one for all kinds; both programs' trees behind a node ===== -/
theorem mQ_mono {l : Launch} {y : MethodName} {ws : List Cond} {f lo f' lo' : Nat} {G : mG} {o : Nat → Int32} {F : Nat → Nat → Int32} {sz : Nat} {av : List Value} {post post' : Int32 → mS → Prop} (h : Met l y ws { frames := f, cells := 0, slots := 0, locals := lo } (mPc G o F sz av) (mQi G sz post) 0 0 (mA G sz)) (hf : f ≤ f') (hl : lo ≤ lo') (hp : ∀ r u, post r u → post' r u) : Met l y ws { frames := f', cells := 0, slots := 0, locals := lo' } (mPc G o F sz av) (mQi G sz post') 0 0 (mA G sz) :=
  Met.conv h (fun _ hw => hw) hf hl (Nat.le_refl _) (Nat.le_refl _) (Nat.le_refl _) (Nat.le_refl _) (fun _ _ h => h) (fun a s oc t _ hq _ => by
    obtain ⟨⟨r, u, e, hp1, hB⟩, hF⟩ := hq
    exact ⟨⟨r, u, e, hp r u hp1, hB⟩, hF⟩) (fun _ h => h)
def QA (qs : List Nat) (a1 a2 a3 : Int32) : Prop := qs = [] ∨ (∃ qa, qs = [qa] ∧ a1 = nI qa) ∨ (∃ qa qb, qs = [qa, qb] ∧ a1 = nI qa ∧ a2 = nI qb) ∨ ∃ qa qb qc, qs = [qa, qb, qc] ∧ a1 = nI qa ∧ a2 = nI qb ∧ a3 = nI qc
def NPost (tr : aM) (N : Nat) (o : Nat → Int32) (F : Nat → Nat → Int32) (x v9 a1 a2 a3 r : Int32) (u : mS) : Prop := (r = -1 ∧ u = (o, F) ∧ ¬ MOK (F 6) N x v9 a1 a2 a3) ∨ (MOK (F 6) N x v9 a1 a2 a3 ∧ N = 120 ∧ r = -2 ∧ u = (o, F)) ∨ (MOK (F 6) N x v9 a1 a2 a3 ∧ N < 120 ∧ r = nI N ∧ ∃ k v qs, RI (trN tr N k v qs) (N + 1) u.1 u.2 ∧ NodeF F u.2 N x (t_mark x v9) qs ∧ p_parts x = nI qs.length ∧ QA qs a1 a2 a3 ∧ ∀ q ∈ qs, q < N)
theorem fre_at {N q : Nat} {F : Nat → Nat → Int32} {x : Int32} (h : Fre N F x) (e : x = nI q) (hq : q < N) (hN : N ≤ 120) : F 6 q = -9 := by
  obtain ⟨j, hj, e2, h9⟩ := h
  rw [e, nI_eq (by omega) (by omega)] at e2
  rw [e2]
  exact h9
section NP
variable {tr : aM} {N : Nat} {o : Nat → Int32} {F : Nat → Nat → Int32} {v9 a1 a2 a3 r : Int32} {u : mS}
theorem np_0 (hI : RI tr N o F) (h : (r = -1 ∧ u = (o, F) ∧ ¬ (True ∧ (True))) ∨ (True ∧ (True) ∧ ((N = 120 ∧ r = -2 ∧ u = (o, F)) ∨ (N < 120 ∧ r = nI N ∧ u = (upd o 0 (nI (N + 1)), fput (fput (fput (fput (fput (fput (fput (fput (fput (fput (fput (fput (fput (fput (fput (fput F 1 N 0) 2 N v9) 3 N 0) 6 N ((-9))) 4 (6 * N + 0) ((-9))) 5 (6 * N + 0) ((-9))) 4 (6 * N + 1) ((-9))) 5 (6 * N + 1) ((-9))) 4 (6 * N + 2) ((-9))) 5 (6 * N + 2) ((-9))) 4 (6 * N + 3) ((-9))) 5 (6 * N + 3) ((-9))) 4 (6 * N + 4) ((-9))) 5 (6 * N + 4) ((-9))) 4 (6 * N + 5) ((-9))) 5 (6 * N + 5) ((-9))))))) : NPost tr N o F 0 v9 a1 a2 a3 r u := by
  have hN := hI.1.2.1
  rcases h with ⟨h1, h2, h3⟩ | ⟨hA, hB, hc⟩
  · exact Or.inl ⟨h1, h2, fun z => h3 ((mok_0 hN).mp z)⟩
  · have hm := (mok_0 (F := F) (v9 := v9) (a1 := a1) (a2 := a2) (a3 := a3) hN).mpr ⟨hA, hB⟩
    rcases hc with ⟨c1, c2, c3⟩ | ⟨c1, c2, c3⟩
    · exact Or.inr (Or.inl ⟨hm, c1, c2, c3⟩)
    · subst c3
      have et : t_mark 0 v9 = v9 := if_neg (by decide)
      have hF : NodeF F (chB F N 0 v9 0 (-9) (-9) (-9)) N 0 v9 [] := nodeF_0 
      have hF2 : NodeF F (chB F N 0 v9 0 (-9) (-9) (-9)) N (nI 0) v9 [] := by rw [show nI 0 = 0 by decide +kernel]; exact hF
      have hq : ∀ q ∈ [], q < N ∧ F 6 q = -9 := by
        intro q hm9
        exact absurd hm9 (List.not_mem_nil)
      refine Or.inr (Or.inr ⟨hm, c1, c2, 0, 0, [], hI.node c1 hF2 (by decide) rfl (by simp) (fun z => absurd z (by decide)) hq List.nodup_nil (fun z => absurd z (by decide)), by rw [et]; exact hF, (show p_parts 0 = nI 0 by decide), Or.inl rfl, fun q hm9 => (hq q hm9).1⟩)
theorem np_1 (hI : RI tr N o F) (h : (r = -1 ∧ u = (o, F) ∧ ¬ ((∃ w, w < 2 ∧ v9 = nI w) ∧ (True))) ∨ ((∃ w, w < 2 ∧ v9 = nI w) ∧ (True) ∧ ((N = 120 ∧ r = -2 ∧ u = (o, F)) ∨ (N < 120 ∧ r = nI N ∧ u = (upd o 0 (nI (N + 1)), fput (fput (fput (fput (fput (fput (fput (fput (fput (fput (fput (fput (fput (fput (fput (fput F 1 N 1) 2 N v9) 3 N 0) 6 N ((-9))) 4 (6 * N + 0) ((-9))) 5 (6 * N + 0) ((-9))) 4 (6 * N + 1) ((-9))) 5 (6 * N + 1) ((-9))) 4 (6 * N + 2) ((-9))) 5 (6 * N + 2) ((-9))) 4 (6 * N + 3) ((-9))) 5 (6 * N + 3) ((-9))) 4 (6 * N + 4) ((-9))) 5 (6 * N + 4) ((-9))) 4 (6 * N + 5) ((-9))) 5 (6 * N + 5) ((-9))))))) : NPost tr N o F 1 v9 a1 a2 a3 r u := by
  have hN := hI.1.2.1
  rcases h with ⟨h1, h2, h3⟩ | ⟨hA, hB, hc⟩
  · exact Or.inl ⟨h1, h2, fun z => h3 ((mok_1 hN).mp z)⟩
  · have hm := (mok_1 (F := F) (v9 := v9) (a1 := a1) (a2 := a2) (a3 := a3) hN).mpr ⟨hA, hB⟩
    rcases hc with ⟨c1, c2, c3⟩ | ⟨c1, c2, c3⟩
    · exact Or.inr (Or.inl ⟨hm, c1, c2, c3⟩)
    · subst c3
      have et : t_mark 1 v9 = v9 := if_neg (by decide)
      have hF : NodeF F (chB F N 1 v9 0 (-9) (-9) (-9)) N 1 v9 [] := nodeF_0 
      have hF2 : NodeF F (chB F N 1 v9 0 (-9) (-9) (-9)) N (nI 1) v9 [] := by rw [show nI 1 = 1 by decide +kernel]; exact hF
      have hq : ∀ q ∈ [], q < N ∧ F 6 q = -9 := by
        intro q hm9
        exact absurd hm9 (List.not_mem_nil)
      refine Or.inr (Or.inr ⟨hm, c1, c2, 1, 0, [], hI.node c1 hF2 (by decide) rfl (by simp) (fun z => absurd z (by decide)) hq List.nodup_nil (fun z => absurd z (by decide)), by rw [et]; exact hF, (show p_parts 1 = nI 0 by decide), Or.inl rfl, fun q hm9 => (hq q hm9).1⟩)
theorem np_2 (hI : RI tr N o F) (h : (r = -1 ∧ u = (o, F) ∧ ¬ ((∃ w, w < 26 ∧ v9 = nI w) ∧ (True))) ∨ ((∃ w, w < 26 ∧ v9 = nI w) ∧ (True) ∧ ((N = 120 ∧ r = -2 ∧ u = (o, F)) ∨ (N < 120 ∧ r = nI N ∧ u = (upd o 0 (nI (N + 1)), fput (fput (fput (fput (fput (fput (fput (fput (fput (fput (fput (fput (fput (fput (fput (fput F 1 N 2) 2 N v9) 3 N 0) 6 N ((-9))) 4 (6 * N + 0) ((-9))) 5 (6 * N + 0) ((-9))) 4 (6 * N + 1) ((-9))) 5 (6 * N + 1) ((-9))) 4 (6 * N + 2) ((-9))) 5 (6 * N + 2) ((-9))) 4 (6 * N + 3) ((-9))) 5 (6 * N + 3) ((-9))) 4 (6 * N + 4) ((-9))) 5 (6 * N + 4) ((-9))) 4 (6 * N + 5) ((-9))) 5 (6 * N + 5) ((-9))))))) : NPost tr N o F 2 v9 a1 a2 a3 r u := by
  have hN := hI.1.2.1
  rcases h with ⟨h1, h2, h3⟩ | ⟨hA, hB, hc⟩
  · exact Or.inl ⟨h1, h2, fun z => h3 ((mok_2 hN).mp z)⟩
  · have hm := (mok_2 (F := F) (v9 := v9) (a1 := a1) (a2 := a2) (a3 := a3) hN).mpr ⟨hA, hB⟩
    rcases hc with ⟨c1, c2, c3⟩ | ⟨c1, c2, c3⟩
    · exact Or.inr (Or.inl ⟨hm, c1, c2, c3⟩)
    · subst c3
      obtain ⟨w, hw, ew⟩ := hA
      have et : t_mark 2 v9 = v9 := if_neg (by decide)
      have hF : NodeF F (chB F N 2 v9 0 (-9) (-9) (-9)) N 2 v9 [] := nodeF_0 
      have hF2 : NodeF F (chB F N 2 v9 0 (-9) (-9) (-9)) N (nI 2) v9 [] := by rw [show nI 2 = 2 by decide +kernel]; exact hF
      have hq : ∀ q ∈ [], q < N ∧ F 6 q = -9 := by
        intro q hm9
        exact absurd hm9 (List.not_mem_nil)
      refine Or.inr (Or.inr ⟨hm, c1, c2, 2, w, [], hI.node c1 hF2 (by decide) rfl (by simp) (fun z => absurd z (by decide)) hq List.nodup_nil (fun _ => ⟨ew, hw⟩), by rw [et]; exact hF, (show p_parts 2 = nI 0 by decide), Or.inl rfl, fun q hm9 => (hq q hm9).1⟩)
theorem np_3 (hI : RI tr N o F) (h : (r = -1 ∧ u = (o, F) ∧ ¬ ((∃ w, w < 26 ∧ v9 = nI w) ∧ (Fre N F a1))) ∨ ((∃ w, w < 26 ∧ v9 = nI w) ∧ (Fre N F a1) ∧ ((N = 120 ∧ r = -2 ∧ u = (o, F)) ∨ (N < 120 ∧ r = nI N ∧ ∃ qa, qa < N ∧ a1 = nI qa ∧ u = (upd o 0 (nI (N + 1)), fput (fput (fput (fput (fput (fput (fput (fput (fput (fput (fput (fput (fput (fput (fput (fput (fput F 1 N 3) 2 N v9) 3 N 1) 6 N ((-9))) 4 (6 * N + 0) (nI qa)) 5 (6 * N + 0) ((-9))) 4 (6 * N + 1) ((-9))) 5 (6 * N + 1) ((-9))) 4 (6 * N + 2) ((-9))) 5 (6 * N + 2) ((-9))) 4 (6 * N + 3) ((-9))) 5 (6 * N + 3) ((-9))) 4 (6 * N + 4) ((-9))) 5 (6 * N + 4) ((-9))) 4 (6 * N + 5) ((-9))) 5 (6 * N + 5) ((-9))) 6 qa (nI N)))))) : NPost tr N o F 3 v9 a1 a2 a3 r u := by
  have hN := hI.1.2.1
  rcases h with ⟨h1, h2, h3⟩ | ⟨hA, hB, hc⟩
  · exact Or.inl ⟨h1, h2, fun z => h3 ((mok_3 hN).mp z)⟩
  · have hm := (mok_3 (F := F) (v9 := v9) (a1 := a1) (a2 := a2) (a3 := a3) hN).mpr ⟨hA, hB⟩
    rcases hc with ⟨c1, c2, c3⟩ | ⟨c1, c2, qa, hqa, eqa, c3⟩
    · exact Or.inr (Or.inl ⟨hm, c1, c2, c3⟩)
    · subst c3
      obtain ⟨w, hw, ew⟩ := hA
      have et : t_mark 3 v9 = v9 := if_neg (by decide)
      have hF : NodeF F (fput (chB F N 3 v9 1 (nI qa) (-9) (-9)) 6 qa (nI N)) N 3 v9 [qa] := nodeF_1 hqa
      have hF2 : NodeF F (fput (chB F N 3 v9 1 (nI qa) (-9) (-9)) 6 qa (nI N)) N (nI 3) v9 [qa] := by rw [show nI 3 = 3 by decide +kernel]; exact hF
      have fa := fre_at hB eqa hqa hN
      have hq : ∀ q ∈ [qa], q < N ∧ F 6 q = -9 := by
        intro q hm9
        simp only [List.mem_cons, List.not_mem_nil, or_false] at hm9
        rw [hm9]; exact ⟨hqa, fa⟩
      refine Or.inr (Or.inr ⟨hm, c1, c2, 3, w, [qa], hI.node c1 hF2 (by decide) rfl (by simp) (fun z => absurd z (by decide)) hq (by simp) (fun _ => ⟨ew, hw⟩), by rw [et]; exact hF, (show p_parts 3 = nI 1 by decide), Or.inr (Or.inl ⟨qa, rfl, eqa⟩), fun q hm9 => (hq q hm9).1⟩)
theorem np_4 (hI : RI tr N o F) (h : (r = -1 ∧ u = (o, F) ∧ ¬ (True ∧ (Fre N F a1 ∧ Fre N F a2 ∧ a2 ≠ a1))) ∨ (True ∧ (Fre N F a1 ∧ Fre N F a2 ∧ a2 ≠ a1) ∧ ((N = 120 ∧ r = -2 ∧ u = (o, F)) ∨ (N < 120 ∧ r = nI N ∧ ∃ qa, qa < N ∧ a1 = nI qa ∧ ∃ qb, qb < N ∧ a2 = nI qb ∧ u = (upd o 0 (nI (N + 1)), fput (fput (fput (fput (fput (fput (fput (fput (fput (fput (fput (fput (fput (fput (fput (fput (fput (fput F 1 N 4) 2 N ((-9))) 3 N 2) 6 N ((-9))) 4 (6 * N + 0) (nI qa)) 5 (6 * N + 0) ((-9))) 4 (6 * N + 1) (nI qb)) 5 (6 * N + 1) ((-9))) 4 (6 * N + 2) ((-9))) 5 (6 * N + 2) ((-9))) 4 (6 * N + 3) ((-9))) 5 (6 * N + 3) ((-9))) 4 (6 * N + 4) ((-9))) 5 (6 * N + 4) ((-9))) 4 (6 * N + 5) ((-9))) 5 (6 * N + 5) ((-9))) 6 qa (nI N)) 6 qb (nI N)))))) : NPost tr N o F 4 v9 a1 a2 a3 r u := by
  have hN := hI.1.2.1
  rcases h with ⟨h1, h2, h3⟩ | ⟨hA, hB, hc⟩
  · exact Or.inl ⟨h1, h2, fun z => h3 ((mok_4 hN).mp z)⟩
  · have hm := (mok_4 (F := F) (v9 := v9) (a1 := a1) (a2 := a2) (a3 := a3) hN).mpr ⟨hA, hB⟩
    rcases hc with ⟨c1, c2, c3⟩ | ⟨c1, c2, qa, hqa, eqa, qb, hqb, eqb, c3⟩
    · exact Or.inr (Or.inl ⟨hm, c1, c2, c3⟩)
    · subst c3
      have et : t_mark 4 v9 = (-9) := if_pos (by decide)
      have hF : NodeF F (fput (fput (chB F N 4 (-9) 2 (nI qa) (nI qb) (-9)) 6 qa (nI N)) 6 qb (nI N)) N 4 (-9) [qa, qb] := nodeF_2 hqa hqb
      have hF2 : NodeF F (fput (fput (chB F N 4 (-9) 2 (nI qa) (nI qb) (-9)) 6 qa (nI N)) 6 qb (nI N)) N (nI 4) (-9) [qa, qb] := by rw [show nI 4 = 4 by decide +kernel]; exact hF
      have fa := fre_at hB.1 eqa hqa hN
      have fb := fre_at hB.2.1 eqb hqb hN
      have ne1 : qa ≠ qb := fun z => hB.2.2 (by rw [eqa, eqb, z])
      have hq : ∀ q ∈ [qa, qb], q < N ∧ F 6 q = -9 := by
        intro q hm9
        simp only [List.mem_cons, List.not_mem_nil, or_false] at hm9
        rcases hm9 with rfl | rfl
        · exact ⟨hqa, fa⟩
        · exact ⟨hqb, fb⟩
      refine Or.inr (Or.inr ⟨hm, c1, c2, 4, 0, [qa, qb], hI.node c1 hF2 (by decide) rfl (by simp) (fun z => absurd z (by decide)) hq (by simp [ne1]) (fun z => absurd z (by decide)), by rw [et]; exact hF, (show p_parts 4 = nI 2 by decide), Or.inr (Or.inr (Or.inl ⟨qa, qb, rfl, eqa, eqb⟩)), fun q hm9 => (hq q hm9).1⟩)
theorem np_5 (hI : RI tr N o F) (h : (r = -1 ∧ u = (o, F) ∧ ¬ (True ∧ (True))) ∨ (True ∧ (True) ∧ ((N = 120 ∧ r = -2 ∧ u = (o, F)) ∨ (N < 120 ∧ r = nI N ∧ u = (upd o 0 (nI (N + 1)), fput (fput (fput (fput (fput (fput (fput (fput (fput (fput (fput (fput (fput (fput (fput (fput F 1 N 5) 2 N ((-9))) 3 N 0) 6 N ((-9))) 4 (6 * N + 0) ((-9))) 5 (6 * N + 0) ((-9))) 4 (6 * N + 1) ((-9))) 5 (6 * N + 1) ((-9))) 4 (6 * N + 2) ((-9))) 5 (6 * N + 2) ((-9))) 4 (6 * N + 3) ((-9))) 5 (6 * N + 3) ((-9))) 4 (6 * N + 4) ((-9))) 5 (6 * N + 4) ((-9))) 4 (6 * N + 5) ((-9))) 5 (6 * N + 5) ((-9))))))) : NPost tr N o F 5 v9 a1 a2 a3 r u := by
  have hN := hI.1.2.1
  rcases h with ⟨h1, h2, h3⟩ | ⟨hA, hB, hc⟩
  · exact Or.inl ⟨h1, h2, fun z => h3 ((mok_5 hN).mp z)⟩
  · have hm := (mok_5 (F := F) (v9 := v9) (a1 := a1) (a2 := a2) (a3 := a3) hN).mpr ⟨hA, hB⟩
    rcases hc with ⟨c1, c2, c3⟩ | ⟨c1, c2, c3⟩
    · exact Or.inr (Or.inl ⟨hm, c1, c2, c3⟩)
    · subst c3
      have et : t_mark 5 v9 = (-9) := if_pos (by decide)
      have hF : NodeF F (chB F N 5 (-9) 0 (-9) (-9) (-9)) N 5 (-9) [] := nodeF_0 
      have hF2 : NodeF F (chB F N 5 (-9) 0 (-9) (-9) (-9)) N (nI 5) (-9) [] := by rw [show nI 5 = 5 by decide +kernel]; exact hF
      have hq : ∀ q ∈ [], q < N ∧ F 6 q = -9 := by
        intro q hm9
        exact absurd hm9 (List.not_mem_nil)
      refine Or.inr (Or.inr ⟨hm, c1, c2, 5, 0, [], hI.node c1 hF2 (by decide) rfl (by simp) (fun _ => rfl) hq List.nodup_nil (fun z => absurd z (by decide)), by rw [et]; exact hF, (show p_parts 5 = nI 0 by decide), Or.inl rfl, fun q hm9 => (hq q hm9).1⟩)
theorem np_6 (hI : RI tr N o F) (h : (r = -1 ∧ u = (o, F) ∧ ¬ ((∃ w, w < 26 ∧ v9 = nI w) ∧ (Fre N F a1))) ∨ ((∃ w, w < 26 ∧ v9 = nI w) ∧ (Fre N F a1) ∧ ((N = 120 ∧ r = -2 ∧ u = (o, F)) ∨ (N < 120 ∧ r = nI N ∧ ∃ qa, qa < N ∧ a1 = nI qa ∧ u = (upd o 0 (nI (N + 1)), fput (fput (fput (fput (fput (fput (fput (fput (fput (fput (fput (fput (fput (fput (fput (fput (fput F 1 N 6) 2 N v9) 3 N 1) 6 N ((-9))) 4 (6 * N + 0) (nI qa)) 5 (6 * N + 0) ((-9))) 4 (6 * N + 1) ((-9))) 5 (6 * N + 1) ((-9))) 4 (6 * N + 2) ((-9))) 5 (6 * N + 2) ((-9))) 4 (6 * N + 3) ((-9))) 5 (6 * N + 3) ((-9))) 4 (6 * N + 4) ((-9))) 5 (6 * N + 4) ((-9))) 4 (6 * N + 5) ((-9))) 5 (6 * N + 5) ((-9))) 6 qa (nI N)))))) : NPost tr N o F 6 v9 a1 a2 a3 r u := by
  have hN := hI.1.2.1
  rcases h with ⟨h1, h2, h3⟩ | ⟨hA, hB, hc⟩
  · exact Or.inl ⟨h1, h2, fun z => h3 ((mok_6 hN).mp z)⟩
  · have hm := (mok_6 (F := F) (v9 := v9) (a1 := a1) (a2 := a2) (a3 := a3) hN).mpr ⟨hA, hB⟩
    rcases hc with ⟨c1, c2, c3⟩ | ⟨c1, c2, qa, hqa, eqa, c3⟩
    · exact Or.inr (Or.inl ⟨hm, c1, c2, c3⟩)
    · subst c3
      obtain ⟨w, hw, ew⟩ := hA
      have et : t_mark 6 v9 = v9 := if_neg (by decide)
      have hF : NodeF F (fput (chB F N 6 v9 1 (nI qa) (-9) (-9)) 6 qa (nI N)) N 6 v9 [qa] := nodeF_1 hqa
      have hF2 : NodeF F (fput (chB F N 6 v9 1 (nI qa) (-9) (-9)) 6 qa (nI N)) N (nI 6) v9 [qa] := by rw [show nI 6 = 6 by decide +kernel]; exact hF
      have fa := fre_at hB eqa hqa hN
      have hq : ∀ q ∈ [qa], q < N ∧ F 6 q = -9 := by
        intro q hm9
        simp only [List.mem_cons, List.not_mem_nil, or_false] at hm9
        rw [hm9]; exact ⟨hqa, fa⟩
      refine Or.inr (Or.inr ⟨hm, c1, c2, 6, w, [qa], hI.node c1 hF2 (by decide) rfl (by simp) (fun z => absurd z (by decide)) hq (by simp) (fun _ => ⟨ew, hw⟩), by rw [et]; exact hF, (show p_parts 6 = nI 1 by decide), Or.inr (Or.inl ⟨qa, rfl, eqa⟩), fun q hm9 => (hq q hm9).1⟩)
theorem np_7 (hI : RI tr N o F) (h : (r = -1 ∧ u = (o, F) ∧ ¬ ((∃ w, w < 26 ∧ v9 = nI w) ∧ (Fre N F a1 ∧ Fre N F a2 ∧ a2 ≠ a1))) ∨ ((∃ w, w < 26 ∧ v9 = nI w) ∧ (Fre N F a1 ∧ Fre N F a2 ∧ a2 ≠ a1) ∧ ((N = 120 ∧ r = -2 ∧ u = (o, F)) ∨ (N < 120 ∧ r = nI N ∧ ∃ qa, qa < N ∧ a1 = nI qa ∧ ∃ qb, qb < N ∧ a2 = nI qb ∧ u = (upd o 0 (nI (N + 1)), fput (fput (fput (fput (fput (fput (fput (fput (fput (fput (fput (fput (fput (fput (fput (fput (fput (fput F 1 N 7) 2 N v9) 3 N 2) 6 N ((-9))) 4 (6 * N + 0) (nI qa)) 5 (6 * N + 0) ((-9))) 4 (6 * N + 1) (nI qb)) 5 (6 * N + 1) ((-9))) 4 (6 * N + 2) ((-9))) 5 (6 * N + 2) ((-9))) 4 (6 * N + 3) ((-9))) 5 (6 * N + 3) ((-9))) 4 (6 * N + 4) ((-9))) 5 (6 * N + 4) ((-9))) 4 (6 * N + 5) ((-9))) 5 (6 * N + 5) ((-9))) 6 qa (nI N)) 6 qb (nI N)))))) : NPost tr N o F 7 v9 a1 a2 a3 r u := by
  have hN := hI.1.2.1
  rcases h with ⟨h1, h2, h3⟩ | ⟨hA, hB, hc⟩
  · exact Or.inl ⟨h1, h2, fun z => h3 ((mok_7 hN).mp z)⟩
  · have hm := (mok_7 (F := F) (v9 := v9) (a1 := a1) (a2 := a2) (a3 := a3) hN).mpr ⟨hA, hB⟩
    rcases hc with ⟨c1, c2, c3⟩ | ⟨c1, c2, qa, hqa, eqa, qb, hqb, eqb, c3⟩
    · exact Or.inr (Or.inl ⟨hm, c1, c2, c3⟩)
    · subst c3
      obtain ⟨w, hw, ew⟩ := hA
      have et : t_mark 7 v9 = v9 := if_neg (by decide)
      have hF : NodeF F (fput (fput (chB F N 7 v9 2 (nI qa) (nI qb) (-9)) 6 qa (nI N)) 6 qb (nI N)) N 7 v9 [qa, qb] := nodeF_2 hqa hqb
      have hF2 : NodeF F (fput (fput (chB F N 7 v9 2 (nI qa) (nI qb) (-9)) 6 qa (nI N)) 6 qb (nI N)) N (nI 7) v9 [qa, qb] := by rw [show nI 7 = 7 by decide +kernel]; exact hF
      have fa := fre_at hB.1 eqa hqa hN
      have fb := fre_at hB.2.1 eqb hqb hN
      have ne1 : qa ≠ qb := fun z => hB.2.2 (by rw [eqa, eqb, z])
      have hq : ∀ q ∈ [qa, qb], q < N ∧ F 6 q = -9 := by
        intro q hm9
        simp only [List.mem_cons, List.not_mem_nil, or_false] at hm9
        rcases hm9 with rfl | rfl
        · exact ⟨hqa, fa⟩
        · exact ⟨hqb, fb⟩
      refine Or.inr (Or.inr ⟨hm, c1, c2, 7, w, [qa, qb], hI.node c1 hF2 (by decide) rfl (by simp) (fun z => absurd z (by decide)) hq (by simp [ne1]) (fun _ => ⟨ew, hw⟩), by rw [et]; exact hF, (show p_parts 7 = nI 2 by decide), Or.inr (Or.inr (Or.inl ⟨qa, qb, rfl, eqa, eqb⟩)), fun q hm9 => (hq q hm9).1⟩)
theorem np_8 (hI : RI tr N o F) (h : (r = -1 ∧ u = (o, F) ∧ ¬ ((∃ w, w < 26 ∧ v9 = nI w) ∧ (Fre N F a1 ∧ Fre N F a2 ∧ a2 ≠ a1))) ∨ ((∃ w, w < 26 ∧ v9 = nI w) ∧ (Fre N F a1 ∧ Fre N F a2 ∧ a2 ≠ a1) ∧ ((N = 120 ∧ r = -2 ∧ u = (o, F)) ∨ (N < 120 ∧ r = nI N ∧ ∃ qa, qa < N ∧ a1 = nI qa ∧ ∃ qb, qb < N ∧ a2 = nI qb ∧ u = (upd o 0 (nI (N + 1)), fput (fput (fput (fput (fput (fput (fput (fput (fput (fput (fput (fput (fput (fput (fput (fput (fput (fput F 1 N 8) 2 N v9) 3 N 2) 6 N ((-9))) 4 (6 * N + 0) (nI qa)) 5 (6 * N + 0) ((-9))) 4 (6 * N + 1) (nI qb)) 5 (6 * N + 1) ((-9))) 4 (6 * N + 2) ((-9))) 5 (6 * N + 2) ((-9))) 4 (6 * N + 3) ((-9))) 5 (6 * N + 3) ((-9))) 4 (6 * N + 4) ((-9))) 5 (6 * N + 4) ((-9))) 4 (6 * N + 5) ((-9))) 5 (6 * N + 5) ((-9))) 6 qa (nI N)) 6 qb (nI N)))))) : NPost tr N o F 8 v9 a1 a2 a3 r u := by
  have hN := hI.1.2.1
  rcases h with ⟨h1, h2, h3⟩ | ⟨hA, hB, hc⟩
  · exact Or.inl ⟨h1, h2, fun z => h3 ((mok_8 hN).mp z)⟩
  · have hm := (mok_8 (F := F) (v9 := v9) (a1 := a1) (a2 := a2) (a3 := a3) hN).mpr ⟨hA, hB⟩
    rcases hc with ⟨c1, c2, c3⟩ | ⟨c1, c2, qa, hqa, eqa, qb, hqb, eqb, c3⟩
    · exact Or.inr (Or.inl ⟨hm, c1, c2, c3⟩)
    · subst c3
      obtain ⟨w, hw, ew⟩ := hA
      have et : t_mark 8 v9 = v9 := if_neg (by decide)
      have hF : NodeF F (fput (fput (chB F N 8 v9 2 (nI qa) (nI qb) (-9)) 6 qa (nI N)) 6 qb (nI N)) N 8 v9 [qa, qb] := nodeF_2 hqa hqb
      have hF2 : NodeF F (fput (fput (chB F N 8 v9 2 (nI qa) (nI qb) (-9)) 6 qa (nI N)) 6 qb (nI N)) N (nI 8) v9 [qa, qb] := by rw [show nI 8 = 8 by decide +kernel]; exact hF
      have fa := fre_at hB.1 eqa hqa hN
      have fb := fre_at hB.2.1 eqb hqb hN
      have ne1 : qa ≠ qb := fun z => hB.2.2 (by rw [eqa, eqb, z])
      have hq : ∀ q ∈ [qa, qb], q < N ∧ F 6 q = -9 := by
        intro q hm9
        simp only [List.mem_cons, List.not_mem_nil, or_false] at hm9
        rcases hm9 with rfl | rfl
        · exact ⟨hqa, fa⟩
        · exact ⟨hqb, fb⟩
      refine Or.inr (Or.inr ⟨hm, c1, c2, 8, w, [qa, qb], hI.node c1 hF2 (by decide) rfl (by simp) (fun z => absurd z (by decide)) hq (by simp [ne1]) (fun _ => ⟨ew, hw⟩), by rw [et]; exact hF, (show p_parts 8 = nI 2 by decide), Or.inr (Or.inr (Or.inl ⟨qa, qb, rfl, eqa, eqb⟩)), fun q hm9 => (hq q hm9).1⟩)
theorem np_9 (hI : RI tr N o F) (h : (r = -1 ∧ u = (o, F) ∧ ¬ (True ∧ (Fre N F a1 ∧ Fre N F a2 ∧ a2 ≠ a1 ∧ Fre N F a3 ∧ a3 ≠ a1 ∧ a3 ≠ a2))) ∨ (True ∧ (Fre N F a1 ∧ Fre N F a2 ∧ a2 ≠ a1 ∧ Fre N F a3 ∧ a3 ≠ a1 ∧ a3 ≠ a2) ∧ ((N = 120 ∧ r = -2 ∧ u = (o, F)) ∨ (N < 120 ∧ r = nI N ∧ ∃ qa, qa < N ∧ a1 = nI qa ∧ ∃ qb, qb < N ∧ a2 = nI qb ∧ ∃ qc, qc < N ∧ a3 = nI qc ∧ u = (upd o 0 (nI (N + 1)), fput (fput (fput (fput (fput (fput (fput (fput (fput (fput (fput (fput (fput (fput (fput (fput (fput (fput (fput F 1 N 9) 2 N ((-9))) 3 N 3) 6 N ((-9))) 4 (6 * N + 0) (nI qa)) 5 (6 * N + 0) ((-9))) 4 (6 * N + 1) (nI qb)) 5 (6 * N + 1) ((-9))) 4 (6 * N + 2) (nI qc)) 5 (6 * N + 2) ((-9))) 4 (6 * N + 3) ((-9))) 5 (6 * N + 3) ((-9))) 4 (6 * N + 4) ((-9))) 5 (6 * N + 4) ((-9))) 4 (6 * N + 5) ((-9))) 5 (6 * N + 5) ((-9))) 6 qa (nI N)) 6 qb (nI N)) 6 qc (nI N)))))) : NPost tr N o F 9 v9 a1 a2 a3 r u := by
  have hN := hI.1.2.1
  rcases h with ⟨h1, h2, h3⟩ | ⟨hA, hB, hc⟩
  · exact Or.inl ⟨h1, h2, fun z => h3 ((mok_9 hN).mp z)⟩
  · have hm := (mok_9 (F := F) (v9 := v9) (a1 := a1) (a2 := a2) (a3 := a3) hN).mpr ⟨hA, hB⟩
    rcases hc with ⟨c1, c2, c3⟩ | ⟨c1, c2, qa, hqa, eqa, qb, hqb, eqb, qc, hqc, eqc, c3⟩
    · exact Or.inr (Or.inl ⟨hm, c1, c2, c3⟩)
    · subst c3
      have et : t_mark 9 v9 = (-9) := if_pos (by decide)
      have hF : NodeF F (fput (fput (fput (chB F N 9 (-9) 3 (nI qa) (nI qb) (nI qc)) 6 qa (nI N)) 6 qb (nI N)) 6 qc (nI N)) N 9 (-9) [qa, qb, qc] := nodeF_3 hqa hqb hqc
      have hF2 : NodeF F (fput (fput (fput (chB F N 9 (-9) 3 (nI qa) (nI qb) (nI qc)) 6 qa (nI N)) 6 qb (nI N)) 6 qc (nI N)) N (nI 9) (-9) [qa, qb, qc] := by rw [show nI 9 = 9 by decide +kernel]; exact hF
      have fa := fre_at hB.1 eqa hqa hN
      have fb := fre_at hB.2.1 eqb hqb hN
      have fc := fre_at hB.2.2.2.1 eqc hqc hN
      have ne1 : qa ≠ qb := fun z => hB.2.2.1 (by rw [eqa, eqb, z])
      have ne2 : qa ≠ qc := fun z => hB.2.2.2.2.1 (by rw [eqa, eqc, z])
      have ne3 : qb ≠ qc := fun z => hB.2.2.2.2.2 (by rw [eqb, eqc, z])
      have hq : ∀ q ∈ [qa, qb, qc], q < N ∧ F 6 q = -9 := by
        intro q hm9
        simp only [List.mem_cons, List.not_mem_nil, or_false] at hm9
        rcases hm9 with rfl | rfl | rfl
        · exact ⟨hqa, fa⟩
        · exact ⟨hqb, fb⟩
        · exact ⟨hqc, fc⟩
      refine Or.inr (Or.inr ⟨hm, c1, c2, 9, 0, [qa, qb, qc], hI.node c1 hF2 (by decide) rfl (by simp) (fun z => absurd z (by decide)) hq (by simp [ne1, ne2, ne3]) (fun z => absurd z (by decide)), by rw [et]; exact hF, (show p_parts 9 = nI 3 by decide), Or.inr (Or.inr (Or.inr ⟨qa, qb, qc, rfl, eqa, eqb, eqc⟩)), fun q hm9 => (hq q hm9).1⟩)
theorem np_10 (hI : RI tr N o F) (h : (r = -1 ∧ u = (o, F) ∧ ¬ (True ∧ (Fre N F a1 ∧ Fre N F a2 ∧ a2 ≠ a1))) ∨ (True ∧ (Fre N F a1 ∧ Fre N F a2 ∧ a2 ≠ a1) ∧ ((N = 120 ∧ r = -2 ∧ u = (o, F)) ∨ (N < 120 ∧ r = nI N ∧ ∃ qa, qa < N ∧ a1 = nI qa ∧ ∃ qb, qb < N ∧ a2 = nI qb ∧ u = (upd o 0 (nI (N + 1)), fput (fput (fput (fput (fput (fput (fput (fput (fput (fput (fput (fput (fput (fput (fput (fput (fput (fput F 1 N 10) 2 N ((-9))) 3 N 2) 6 N ((-9))) 4 (6 * N + 0) (nI qa)) 5 (6 * N + 0) ((-9))) 4 (6 * N + 1) (nI qb)) 5 (6 * N + 1) ((-9))) 4 (6 * N + 2) ((-9))) 5 (6 * N + 2) ((-9))) 4 (6 * N + 3) ((-9))) 5 (6 * N + 3) ((-9))) 4 (6 * N + 4) ((-9))) 5 (6 * N + 4) ((-9))) 4 (6 * N + 5) ((-9))) 5 (6 * N + 5) ((-9))) 6 qa (nI N)) 6 qb (nI N)))))) : NPost tr N o F 10 v9 a1 a2 a3 r u := by
  have hN := hI.1.2.1
  rcases h with ⟨h1, h2, h3⟩ | ⟨hA, hB, hc⟩
  · exact Or.inl ⟨h1, h2, fun z => h3 ((mok_10 hN).mp z)⟩
  · have hm := (mok_10 (F := F) (v9 := v9) (a1 := a1) (a2 := a2) (a3 := a3) hN).mpr ⟨hA, hB⟩
    rcases hc with ⟨c1, c2, c3⟩ | ⟨c1, c2, qa, hqa, eqa, qb, hqb, eqb, c3⟩
    · exact Or.inr (Or.inl ⟨hm, c1, c2, c3⟩)
    · subst c3
      have et : t_mark 10 v9 = (-9) := if_pos (by decide)
      have hF : NodeF F (fput (fput (chB F N 10 (-9) 2 (nI qa) (nI qb) (-9)) 6 qa (nI N)) 6 qb (nI N)) N 10 (-9) [qa, qb] := nodeF_2 hqa hqb
      have hF2 : NodeF F (fput (fput (chB F N 10 (-9) 2 (nI qa) (nI qb) (-9)) 6 qa (nI N)) 6 qb (nI N)) N (nI 10) (-9) [qa, qb] := by rw [show nI 10 = 10 by decide +kernel]; exact hF
      have fa := fre_at hB.1 eqa hqa hN
      have fb := fre_at hB.2.1 eqb hqb hN
      have ne1 : qa ≠ qb := fun z => hB.2.2 (by rw [eqa, eqb, z])
      have hq : ∀ q ∈ [qa, qb], q < N ∧ F 6 q = -9 := by
        intro q hm9
        simp only [List.mem_cons, List.not_mem_nil, or_false] at hm9
        rcases hm9 with rfl | rfl
        · exact ⟨hqa, fa⟩
        · exact ⟨hqb, fb⟩
      refine Or.inr (Or.inr ⟨hm, c1, c2, 10, 0, [qa, qb], hI.node c1 hF2 (by decide) rfl (by simp) (fun z => absurd z (by decide)) hq (by simp [ne1]) (fun z => absurd z (by decide)), by rw [et]; exact hF, (show p_parts 10 = nI 2 by decide), Or.inr (Or.inr (Or.inl ⟨qa, qb, rfl, eqa, eqb⟩)), fun q hm9 => (hq q hm9).1⟩)
theorem np_11 (hI : RI tr N o F) (h : (r = -1 ∧ u = (o, F) ∧ ¬ (True ∧ (Fre N F a1 ∧ Fre N F a2 ∧ a2 ≠ a1))) ∨ (True ∧ (Fre N F a1 ∧ Fre N F a2 ∧ a2 ≠ a1) ∧ ((N = 120 ∧ r = -2 ∧ u = (o, F)) ∨ (N < 120 ∧ r = nI N ∧ ∃ qa, qa < N ∧ a1 = nI qa ∧ ∃ qb, qb < N ∧ a2 = nI qb ∧ u = (upd o 0 (nI (N + 1)), fput (fput (fput (fput (fput (fput (fput (fput (fput (fput (fput (fput (fput (fput (fput (fput (fput (fput F 1 N 11) 2 N ((-9))) 3 N 2) 6 N ((-9))) 4 (6 * N + 0) (nI qa)) 5 (6 * N + 0) ((-9))) 4 (6 * N + 1) (nI qb)) 5 (6 * N + 1) ((-9))) 4 (6 * N + 2) ((-9))) 5 (6 * N + 2) ((-9))) 4 (6 * N + 3) ((-9))) 5 (6 * N + 3) ((-9))) 4 (6 * N + 4) ((-9))) 5 (6 * N + 4) ((-9))) 4 (6 * N + 5) ((-9))) 5 (6 * N + 5) ((-9))) 6 qa (nI N)) 6 qb (nI N)))))) : NPost tr N o F 11 v9 a1 a2 a3 r u := by
  have hN := hI.1.2.1
  rcases h with ⟨h1, h2, h3⟩ | ⟨hA, hB, hc⟩
  · exact Or.inl ⟨h1, h2, fun z => h3 ((mok_11 hN).mp z)⟩
  · have hm := (mok_11 (F := F) (v9 := v9) (a1 := a1) (a2 := a2) (a3 := a3) hN).mpr ⟨hA, hB⟩
    rcases hc with ⟨c1, c2, c3⟩ | ⟨c1, c2, qa, hqa, eqa, qb, hqb, eqb, c3⟩
    · exact Or.inr (Or.inl ⟨hm, c1, c2, c3⟩)
    · subst c3
      have et : t_mark 11 v9 = (-9) := if_pos (by decide)
      have hF : NodeF F (fput (fput (chB F N 11 (-9) 2 (nI qa) (nI qb) (-9)) 6 qa (nI N)) 6 qb (nI N)) N 11 (-9) [qa, qb] := nodeF_2 hqa hqb
      have hF2 : NodeF F (fput (fput (chB F N 11 (-9) 2 (nI qa) (nI qb) (-9)) 6 qa (nI N)) 6 qb (nI N)) N (nI 11) (-9) [qa, qb] := by rw [show nI 11 = 11 by decide +kernel]; exact hF
      have fa := fre_at hB.1 eqa hqa hN
      have fb := fre_at hB.2.1 eqb hqb hN
      have ne1 : qa ≠ qb := fun z => hB.2.2 (by rw [eqa, eqb, z])
      have hq : ∀ q ∈ [qa, qb], q < N ∧ F 6 q = -9 := by
        intro q hm9
        simp only [List.mem_cons, List.not_mem_nil, or_false] at hm9
        rcases hm9 with rfl | rfl
        · exact ⟨hqa, fa⟩
        · exact ⟨hqb, fb⟩
      refine Or.inr (Or.inr ⟨hm, c1, c2, 11, 0, [qa, qb], hI.node c1 hF2 (by decide) rfl (by simp) (fun z => absurd z (by decide)) hq (by simp [ne1]) (fun z => absurd z (by decide)), by rw [et]; exact hF, (show p_parts 11 = nI 2 by decide), Or.inr (Or.inr (Or.inl ⟨qa, qb, rfl, eqa, eqb⟩)), fun q hm9 => (hq q hm9).1⟩)
end NP
/-! the trees -/
def TEq (S : cS) (F : Nat → Nat → Int32) (N : Nat) : Prop := (∀ j, j < N → kF S 0 j = F 1 j ∧ kF S 1 j = F 2 j ∧ kF S 2 j = F 6 j ∧ kF S 3 j = F 3 j) ∧ ∀ j, j < 6 * N → kF S 4 j = F 4 j ∧ kF S 5 j = F 5 j
theorem TEq.aw {rs is : List Nat} {S u : cS} {F F' : Nat → Nat → Int32} {N : Nat} (h : TEq S F N) (a : AW rs is S u) (hr : ∀ r ∈ [0, 1, 2, 3, 4, 5], r ∉ rs) (hF : ∀ k, k < 7 → F' k = F k) : TEq u F' N := by
  have e : ∀ r, r ∈ [0, 1, 2, 3, 4, 5] → kF u r = kF S r := fun r hm => (a.2.1 r (by simp only [List.mem_cons, List.not_mem_nil, or_false] at hm; omega) (by
    rw [Nat.min_eq_left (by simp only [List.mem_cons, List.not_mem_nil, or_false] at hm; omega)]
    exact hr r hm)).1
  unfold TEq at h ⊢
  rw [e 0 (by decide), e 1 (by decide), e 2 (by decide), e 3 (by decide), e 4 (by decide), e 5 (by decide), hF 1 (by decide), hF 2 (by decide), hF 3 (by decide), hF 4 (by decide), hF 5 (by decide), hF 6 (by decide)]
  exact h
section AP
variable {f2 f3 g : Nat → Int32} {K q p i : Nat} {x : Int32}
theorem pc_at (hq : q < K) (hK : K ≤ 121) (h : f3 q = nI i) (hi : i < 7) : t_pc f3 K (nI q) = nI i := by
  unfold t_pc
  rw [rget_at hq (by omega), h, if_neg (nI_n0 (by omega))]
theorem lt6 (hi : i < 6) : nI i < 6 := (nI_ltI (a := i) (b := 6) (by omega) (by omega)).mpr hi
theorem af2_at (hq : q < K) (hK : K ≤ 121) (h : f3 q = nI i) (hi : i < 6) (hp : p < K) : a_f2 f2 f3 K (nI q) (nI p) = upd f2 p (nI q) := by
  unfold a_f2
  rw [pc_at hq hK h (by omega), if_pos (lt6 hi), rset_at hp (by omega)]
theorem af3_at (hq : q < K) (hK : K ≤ 121) (h : f3 q = nI i) (hi : i < 6) : a_f3 f3 K (nI q) = upd f3 q (nI (i + 1)) := by
  unfold a_f3
  rw [pc_at hq hK h (by omega), if_pos (lt6 hi), rset_at hq (by omega), nI_1]
theorem six_at : nI q * 6 + nI i = nI (6 * q + i) := by
  rw [show nI q * 6 = nI (q * 6) from pk_mul q 6, nI_add, Nat.mul_comm]
theorem ag_at (hq : q < K) (hK : K ≤ 121) (h : f3 q = nI i) (hi : i < 6) : a_g g f3 K (nI q) x = upd g (6 * q + i) x := by
  unfold a_g
  rw [pc_at hq hK h (by omega), if_pos (lt6 hi), six_at, rset_at (by omega) (by omega)]
end AP
/-- the class's rows behind a node -/
def NodeC (g2 g3 g4 g5 : Nat → Int32) (u : cS) (N : Nat) (qs : List Nat) : Prop := (∀ j, j ≤ N → kF u 2 j = if j ∈ qs then nI N else g2 j) ∧ (∀ j, j ≤ N → kF u 3 j = if j = N then nI qs.length else g3 j) ∧ (∀ j, j < 6 * N → kF u 4 j = g4 j ∧ kF u 5 j = g5 j) ∧ ∀ i, i < 6 → kF u 4 (6 * N + i) = (if i < qs.length then nI (qs.getD i 0) else -9) ∧ kF u 5 (6 * N + i) = -9
theorem nodeC_of {S u : cS} {N : Nat} {kd vv na nb nc : Int32} {qs : List Nat} (hN : N < 120) (hA : ANP S u N kd vv na nb nc) (hm : p_parts kd = nI qs.length) (hq : QA qs na nb nc) (hl : ∀ q ∈ qs, q < N) : ∃ g2 g3 g4 g5 : Nat → Int32, ((∀ j, j < N → kF u 0 j = kF S 0 j) ∧ kF u 0 N = kd) ∧ ((∀ j, j < N → kF u 1 j = kF S 1 j) ∧ kF u 1 N = t_mark kd vv) ∧ ((∀ j, j < N → g2 j = kF S 2 j) ∧ g2 N = -9) ∧ (∀ j, j < N → g3 j = kF S 3 j) ∧ (∀ j, j < 6 * N → g4 j = kF S 4 j) ∧ (∀ j, j < 6 * N → g5 j = kF S 5 j) ∧ TI u (N + 1) ∧ NodeC g2 g3 g4 g5 u N qs := by
  obtain ⟨g0, g1, g2, g3, g4, g5, ⟨h0, h1, h2, h3, h4, h5⟩, hT, e0, e1, e2, e3, e4, e5⟩ := hA
  refine ⟨g2, g3, g4, g5, by rw [e0]; exact h0, by rw [e1]; exact h1, h2, h3.1, h4.1, h5.1, hT, ?_⟩
  have b0 : g3 N = nI 0 := h3.2.trans nI_0.symm
  have b1 : upd g3 N (nI (0 + 1)) N = nI 1 := upd_s
  have b2 : upd (upd g3 N (nI (0 + 1))) N (nI (1 + 1)) N = nI 2 := upd_s
  have hK : N + 1 ≤ 121 := by omega
  have hNK : N < N + 1 := Nat.lt_succ_self N
  unfold NodeC
  rw [e2, e3, e4, e5, hm]
  rcases hq with rfl | ⟨qa, rfl, ra⟩ | ⟨qa, qb, rfl, ra, rb⟩ | ⟨qa, qb, qc, rfl, ra, rb, rc⟩
  · have c1 : nI ([] : List Nat).length < 1 := by decide
    have c2 : nI ([] : List Nat).length < 2 := by decide
    have c3 : nI ([] : List Nat).length < 3 := by decide
    rw [bq0_2 c1 c2 c3, bq0_3 c1 c2 c3, bq0_g c1 c2 c3, bq0_g c1 c2 c3]
    refine ⟨fun j hj => by rw [if_neg (by simp)], fun j hj => ?_, fun j hj => ⟨rfl, rfl⟩, fun i hi => ⟨by rw [if_neg (by simp)]; exact h4.2 i hi, h5.2 i hi⟩⟩
    by_cases e : j = N
    · rw [if_pos e, e]
      exact b0
    · rw [if_neg e]
  · have c1 : ¬ nI [qa].length < 1 := (show ¬ nI 1 < 1 by decide)
    have c2 : nI [qa].length < 2 := (show nI 1 < 2 by decide)
    have c3 : nI [qa].length < 3 := (show nI 1 < 3 by decide)
    have la : qa < N + 1 := by have := hl qa (by simp); omega
    rw [bq1_2 c1 c2 c3, bq1_3 c1 c2 c3, bq1_g c1 c2 c3, bq1_g c1 c2 c3, ra, af2_at hNK hK b0 (by decide) la, af3_at hNK hK b0 (by decide), ag_at hNK hK b0 (by decide), ag_at hNK hK b0 (by decide)]
    refine ⟨fun j hj => ?_, fun j hj => rfl, fun j hj => ⟨upd_n (by omega), upd_n (by omega)⟩, fun i hi => ?_⟩
    · unfold upd
      simp only [List.mem_cons, List.not_mem_nil, or_false]
    · rcases (show i = 0 ∨ 1 ≤ i by omega) with rfl | z
      · exact ⟨upd_s, upd_s⟩
      · rw [upd_n (by omega), upd_n (by omega), if_neg (by simp only [List.length_cons, List.length_nil]; omega)]
        exact ⟨h4.2 i hi, h5.2 i hi⟩
  · have c1 : ¬ nI [qa, qb].length < 1 := (show ¬ nI 2 < 1 by decide)
    have c2 : ¬ nI [qa, qb].length < 2 := (show ¬ nI 2 < 2 by decide)
    have c3 : nI [qa, qb].length < 3 := (show nI 2 < 3 by decide)
    have la : qa < N + 1 := by have := hl qa (by simp); omega
    have lb : qb < N + 1 := by have := hl qb (by simp); omega
    rw [bq2_2 c1 c2 c3, bq2_3 c1 c2 c3, bq2_g c1 c2 c3, bq2_g c1 c2 c3, ra, rb, af3_at hNK hK b0 (by decide), af2_at hNK hK b0 (by decide) la, af2_at hNK hK b1 (by decide) lb, af3_at hNK hK b1 (by decide), ag_at hNK hK b0 (by decide), ag_at hNK hK b1 (by decide), ag_at hNK hK b0 (by decide), ag_at hNK hK b1 (by decide)]
    refine ⟨fun j hj => ?_, fun j hj => ?_, fun j hj => ⟨by rw [upd_n (by omega), upd_n (by omega)], by rw [upd_n (by omega), upd_n (by omega)]⟩, fun i hi => ?_⟩
    · unfold upd
      simp only [List.mem_cons, List.not_mem_nil, or_false]
      by_cases z1 : j = qb
      · rw [if_pos z1, if_pos (Or.inr z1)]
      · rw [if_neg z1]
        by_cases z2 : j = qa
        · rw [if_pos z2, if_pos (Or.inl z2)]
        · rw [if_neg z2, if_neg (show ¬ (j = qa ∨ j = qb) from fun z => z.elim z2 z1)]
    · by_cases z : j = N
      · rw [z, upd_s, if_pos rfl]
        rfl
      · rw [upd_n z, upd_n z, if_neg z]
    · rcases (show i = 0 ∨ i = 1 ∨ 2 ≤ i by omega) with rfl | rfl | z
      · exact ⟨(upd_n (by omega)).trans upd_s, (upd_n (by omega)).trans upd_s⟩
      · exact ⟨upd_s, upd_s⟩
      · rw [upd_n (by omega), upd_n (by omega), upd_n (by omega), upd_n (by omega), if_neg (by simp only [List.length_cons, List.length_nil]; omega)]
        exact ⟨h4.2 i hi, h5.2 i hi⟩
  · have c1 : ¬ nI [qa, qb, qc].length < 1 := (show ¬ nI 3 < 1 by decide)
    have c2 : ¬ nI [qa, qb, qc].length < 2 := (show ¬ nI 3 < 2 by decide)
    have c3 : ¬ nI [qa, qb, qc].length < 3 := (show ¬ nI 3 < 3 by decide)
    have la : qa < N + 1 := by have := hl qa (by simp); omega
    have lb : qb < N + 1 := by have := hl qb (by simp); omega
    have lc : qc < N + 1 := by have := hl qc (by simp); omega
    rw [bq3_2 c1 c2 c3, bq3_3 c1 c2 c3, bq3_g c1 c2 c3, bq3_g c1 c2 c3, ra, rb, rc, af3_at hNK hK b0 (by decide), af2_at hNK hK b0 (by decide) la, af2_at hNK hK b1 (by decide) lb, af3_at hNK hK b1 (by decide), af2_at hNK hK b2 (by decide) lc, af3_at hNK hK b2 (by decide), ag_at hNK hK b0 (by decide), ag_at hNK hK b1 (by decide), ag_at hNK hK b2 (by decide), ag_at hNK hK b0 (by decide), ag_at hNK hK b1 (by decide), ag_at hNK hK b2 (by decide)]
    refine ⟨fun j hj => ?_, fun j hj => ?_, fun j hj => ⟨by rw [upd_n (by omega), upd_n (by omega), upd_n (by omega)], by rw [upd_n (by omega), upd_n (by omega), upd_n (by omega)]⟩, fun i hi => ?_⟩
    · unfold upd
      simp only [List.mem_cons, List.not_mem_nil, or_false]
      by_cases z0 : j = qc
      · rw [if_pos z0, if_pos (Or.inr (Or.inr z0))]
      · rw [if_neg z0]
        by_cases z1 : j = qb
        · rw [if_pos z1, if_pos (Or.inr (Or.inl z1))]
        · rw [if_neg z1]
          by_cases z2 : j = qa
          · rw [if_pos z2, if_pos (Or.inl z2)]
          · rw [if_neg z2, if_neg (show ¬ (j = qa ∨ j = qb ∨ j = qc) from fun z => z.elim z2 (fun z => z.elim z1 z0))]
    · by_cases z : j = N
      · rw [z, upd_s, if_pos rfl]
        rfl
      · rw [upd_n z, upd_n z, upd_n z, if_neg z]
    · rcases (show i = 0 ∨ i = 1 ∨ i = 2 ∨ 3 ≤ i by omega) with rfl | rfl | rfl | z
      · exact ⟨(upd_n (by omega)).trans ((upd_n (by omega)).trans upd_s), (upd_n (by omega)).trans ((upd_n (by omega)).trans upd_s)⟩
      · exact ⟨(upd_n (by omega)).trans upd_s, (upd_n (by omega)).trans upd_s⟩
      · exact ⟨upd_s, upd_s⟩
      · rw [upd_n (by omega), upd_n (by omega), upd_n (by omega), upd_n (by omega), upd_n (by omega), upd_n (by omega), if_neg (by simp only [List.length_cons, List.length_nil]; omega)]
        exact ⟨h4.2 i hi, h5.2 i hi⟩
theorem TEq.node {S u : cS} {F F' : Nat → Nat → Int32} {N : Nat} {kd vv na nb nc : Int32} {qs : List Nat} (h : TEq S F N) (hN : N < 120) (hA : ANP S u N kd vv na nb nc) (hF : NodeF F F' N kd (t_mark kd vv) qs) (hm : p_parts kd = nI qs.length) (hq : QA qs na nb nc) (hl : ∀ q ∈ qs, q < N) : TEq u F' (N + 1) ∧ TI u (N + 1) := by
  obtain ⟨g2, g3, g4, g5, h0, h1, h2, h3, h4, h5, hT, n2, n3, n45, nN⟩ := nodeC_of hN hA hm hq hl
  obtain ⟨f1, f2, f3, f6, f45, fN, -⟩ := hF
  refine ⟨⟨fun j hj => ?_, fun j hj => ?_⟩, hT⟩
  · rw [n2 j (by omega), n3 j (by omega), f1, f2, f3, f6 j (by omega)]
    by_cases e : j = N
    · subst e
      rw [upd_s, upd_s, upd_s, if_pos rfl, if_pos rfl]
      refine ⟨h0.2, h1.2, ?_, rfl⟩
      rw [h2.2]
    · rw [upd_n e, upd_n e, upd_n e, if_neg e, if_neg e, h0.1 j (by omega), h1.1 j (by omega), h2.1 j (by omega), h3 j (by omega)]
      obtain ⟨a, b, c, d⟩ := h.1 j (by omega)
      refine ⟨a, b, ?_, d⟩
      rw [c]
  · by_cases e : j < 6 * N
    · rw [(n45 j e).1, (n45 j e).2, (f45 j e).1, (f45 j e).2, h4 j e, h5 j e]
      exact h.2 j e
    · obtain ⟨i, hi, rfl⟩ : ∃ i, i < 6 ∧ j = 6 * N + i := ⟨j - 6 * N, by omega, by omega⟩
      rw [(nN i hi).1, (nN i hi).2, (fN i hi).1, (fN i hi).2]
      exact ⟨rfl, rfl⟩
