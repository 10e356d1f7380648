/-! ===== the latest type() in both programs ===== -/
def MK (o : Nat → Int32) (F : Nat → Nat → Int32) (u : mS) : Prop := (∀ z ix, MR z ix o F → MR z ix u.1 u.2) ∧ u.1 14 = o 14 ∧ u.1 24 = o 24
theorem MR.kq9 {L : List Nat} {z : aS} {ix : Nat → Nat → Nat} {o : Nat → Int32} {F : Nat → Nat → Int32} {u : mS} (h : MR z ix o F) (hK : Kq L o F u) (hL : ∀ k ∈ [7, 14, 16, 26, 27, 24, 25, 28, 8, 9, 10, 11, 12, 13, 15, 17, 18, 19, 20, 21, 29, 30], k ∉ L) : MR z ix u.1 u.2 := by
  have eo : ∀ k, k ∈ [7, 14, 16, 26, 27, 24, 25, 28, 8, 9, 10, 11, 12, 13, 15, 17, 18, 19, 20, 21, 29, 30] → u.1 k = o k ∧ u.2 k = F k := fun k hk => hK k (hL k hk)
  unfold MR R0 RT RA RR RV RB Rw RQ at h ⊢
  rw [(eo 7 (by decide)).1, (eo 14 (by decide)).1, (eo 16 (by decide)).1, (eo 26 (by decide)).1, (eo 27 (by decide)).1, (eo 24 (by decide)).1, (eo 25 (by decide)).1, (eo 28 (by decide)).1, (eo 8 (by decide)).2, (eo 9 (by decide)).2, (eo 10 (by decide)).2, (eo 11 (by decide)).2, (eo 12 (by decide)).2, (eo 13 (by decide)).2, (eo 15 (by decide)).2, (eo 17 (by decide)).2, (eo 18 (by decide)).2, (eo 19 (by decide)).2, (eo 20 (by decide)).2, (eo 21 (by decide)).2, (eo 29 (by decide)).2, (eo 30 (by decide)).2]
  exact h
theorem mk_same {o : Nat → Int32} {F : Nat → Nat → Int32} {u : mS} (h : u = (o, F)) : MK o F u := by
  subst h
  exact ⟨fun _ _ h => h, rfl, rfl⟩
theorem mk_of {L : List Nat} {o : Nat → Int32} {F : Nat → Nat → Int32} {u : mS} (hK : Kq L o F u) (hL : ∀ k ∈ [7, 14, 16, 26, 27, 24, 25, 28, 8, 9, 10, 11, 12, 13, 15, 17, 18, 19, 20, 21, 29, 30], k ∉ L) : MK o F u := ⟨fun _ _ h => h.kq9 hK hL, (hK 14 (hL 14 (by decide))).1, (hK 24 (hL 24 (by decide))).1⟩
theorem mk_tell {o : Nat → Int32} {F : Nat → Nat → Int32} {u : mS} (hK : Kq LTa o F u) : MK o F u := mk_of hK (by decide)
def K1 (o o' : Nat → Int32) : Prop := ∀ k, k ≠ 0 → o' k = o k
theorem mk_node {o : Nat → Int32} {F : Nat → Nat → Int32} {u : mS} (h : K1 o u.1) (hF : ∀ k, 7 ≤ k → u.2 k = F k) : MK o F u := by
  refine mk_of (L := [0, 1, 2, 3, 4, 5, 6]) (fun k hk => ⟨h k (fun e => hk (by rw [e]; decide)), hF k ?_⟩) (by decide)
  rcases Nat.lt_or_ge k 7 with h7 | h7
  · exact absurd (by simp only [List.mem_cons, List.not_mem_nil, or_false]; omega) hk
  · exact h7
section K1s
variable {o : Nat → Int32} {F F0 F' : Nat → Nat → Int32} {r a1 a2 a3 : Int32} {N : Nat} {u : mS} {P Q P1 A B C D : Prop} {y : Int32}
theorem k1_eq (h : u = (o, F)) : K1 o u.1 := by
  subst h
  exact fun _ _ => rfl
theorem k1_up (h : u = (upd o 0 y, F')) : K1 o u.1 := by
  subst h
  exact fun _ hk => upd_n hk
theorem k1_0 (h : (r = -1 ∧ u = (o, F) ∧ P) ∨ (P1 ∧ Q ∧ ((A ∧ B ∧ u = (o, F)) ∨ (C ∧ D ∧ u = (upd o 0 y, F'))))) : K1 o u.1 := by
  rcases h with ⟨-, h, -⟩ | ⟨-, -, ⟨-, -, h⟩ | ⟨-, -, h⟩⟩
  · exact k1_eq h
  · exact k1_eq h
  · exact k1_up h
theorem k1_1 {Fq : Nat → Nat → Nat → Int32} (h : (r = -1 ∧ u = (o, F) ∧ P) ∨ (P1 ∧ Q ∧ ((A ∧ B ∧ u = (o, F)) ∨ (C ∧ D ∧ ∃ qa, qa < N ∧ a1 = nI qa ∧ u = (upd o 0 y, Fq qa))))) : K1 o u.1 := by
  rcases h with ⟨-, h, -⟩ | ⟨-, -, ⟨-, -, h⟩ | ⟨-, -, qa, -, -, h⟩⟩
  · exact k1_eq h
  · exact k1_eq h
  · exact k1_up h
theorem k1_2 {Fq : Nat → Nat → Nat → Nat → Int32} (h : (r = -1 ∧ u = (o, F) ∧ P) ∨ (P1 ∧ Q ∧ ((A ∧ B ∧ u = (o, F)) ∨ (C ∧ D ∧ ∃ qa, qa < N ∧ a1 = nI qa ∧ ∃ qb, qb < N ∧ a2 = nI qb ∧ u = (upd o 0 y, Fq qa qb))))) : K1 o u.1 := by
  rcases h with ⟨-, h, -⟩ | ⟨-, -, ⟨-, -, h⟩ | ⟨-, -, qa, -, -, qb, -, -, h⟩⟩
  · exact k1_eq h
  · exact k1_eq h
  · exact k1_up h
theorem k1_3 {Fq : Nat → Nat → Nat → Nat → Nat → Int32} (h : (r = -1 ∧ u = (o, F) ∧ P) ∨ (P1 ∧ Q ∧ ((A ∧ B ∧ u = (o, F)) ∨ (C ∧ D ∧ ∃ qa, qa < N ∧ a1 = nI qa ∧ ∃ qb, qb < N ∧ a2 = nI qb ∧ ∃ qc, qc < N ∧ a3 = nI qc ∧ u = (upd o 0 y, Fq qa qb qc))))) : K1 o u.1 := by
  rcases h with ⟨-, h, -⟩ | ⟨-, -, ⟨-, -, h⟩ | ⟨-, -, qa, -, -, qb, -, -, qc, -, -, h⟩⟩
  · exact k1_eq h
  · exact k1_eq h
  · exact k1_up h
end K1s
theorem n9_told (l : Launch) (G : mG) (hDD : mDD G) (o : Nat → Int32) (F : Nat → Nat → Int32) (tr : aM) (N : Nat) (x y : Int32) (hI : RI tr N o F) (sz : Nat) : Met l yX8_told (wU yX8_told cX8_told 3 (some .int)) { frames := 2, cells := 0, slots := 0, locals := 43 } (mPc G o F sz [.ref (mh G), .int x, .int y]) (mQi G sz (fun _ u => ((RI tr N u.1 u.2 ∧ ∀ k, k < 7 → u.2 k = F k) ∧ W4 o F u) ∧ MK o F u)) 0 0 (mA G sz) :=
  mQ_mono (m_told l G hDD o F N x y hI.1.1 hI.1.2.1 sz) (Nat.le_refl _) (Nat.le_refl _) (fun r u h => ⟨hI.same3 h.1, mk_same h.1⟩)
theorem n9_where (l : Launch) (G : mG) (hDD : mDD G) (o : Nat → Int32) (F : Nat → Nat → Int32) (tr : aM) (N : Nat) (hI : RI tr N o F) (sz : Nat) : Met l yX8_where (wU yX8_where cX8_where 1 (some .int)) { frames := 0, cells := 0, slots := 0, locals := 0 } (mPc G o F sz [.ref (mh G)]) (mQi G sz (fun _ u => ((RI tr N u.1 u.2 ∧ ∀ k, k < 7 → u.2 k = F k) ∧ W4 o F u) ∧ MK o F u)) 0 0 (mA G sz) :=
  mQ_mono (m_where l G hDD o F sz) (Nat.le_refl _) (Nat.le_refl _) (fun r u h => ⟨hI.same3 h.1, mk_same h.1⟩)
theorem n9_steps (l : Launch) (G : mG) (hDD : mDD G) (o : Nat → Int32) (F : Nat → Nat → Int32) (tr : aM) (N : Nat) (hI : RI tr N o F) (sz : Nat) : Met l yX8_steps (wU yX8_steps cX8_steps 1 (some .int)) { frames := 0, cells := 0, slots := 0, locals := 0 } (mPc G o F sz [.ref (mh G)]) (mQi G sz (fun _ u => ((RI tr N u.1 u.2 ∧ ∀ k, k < 7 → u.2 k = F k) ∧ W4 o F u) ∧ MK o F u)) 0 0 (mA G sz) :=
  mQ_mono (m_steps l G hDD o F sz) (Nat.le_refl _) (Nat.le_refl _) (fun r u h => ⟨hI.same3 h.1, mk_same h.1⟩)
theorem n9_worked (l : Launch) (G : mG) (hDD : mDD G) (o : Nat → Int32) (F : Nat → Nat → Int32) (tr : aM) (N : Nat) (hI : RI tr N o F) (sz : Nat) : Met l yX8_worked (wU yX8_worked cX8_worked 1 (some .int)) { frames := 0, cells := 0, slots := 0, locals := 0 } (mPc G o F sz [.ref (mh G)]) (mQi G sz (fun _ u => ((RI tr N u.1 u.2 ∧ ∀ k, k < 7 → u.2 k = F k) ∧ W4 o F u) ∧ MK o F u)) 0 0 (mA G sz) :=
  mQ_mono (m_worked l G hDD o F sz) (Nat.le_refl _) (Nat.le_refl _) (fun r u h => ⟨hI.same3 h.1, mk_same h.1⟩)
theorem n9_stuck (l : Launch) (G : mG) (hDD : mDD G) (o : Nat → Int32) (F : Nat → Nat → Int32) (tr : aM) (N : Nat) (hI : RI tr N o F) (sz : Nat) : Met l yX8_stuck (wU yX8_stuck cX8_stuck 1 (some .int)) { frames := 0, cells := 0, slots := 0, locals := 0 } (mPc G o F sz [.ref (mh G)]) (mQi G sz (fun _ u => ((RI tr N u.1 u.2 ∧ ∀ k, k < 7 → u.2 k = F k) ∧ W4 o F u) ∧ MK o F u)) 0 0 (mA G sz) :=
  mQ_mono (m_stuck l G hDD o F sz) (Nat.le_refl _) (Nat.le_refl _) (fun r u h => ⟨hI.same3 h.1, mk_same h.1⟩)
theorem n9_count (l : Launch) (G : mG) (hDD : mDD G) (o : Nat → Int32) (F : Nat → Nat → Int32) (tr : aM) (N : Nat) (x : Int32) (hI : RI tr N o F) (sz : Nat) : Met l yX8_count (wU yX8_count cX8_count 4 (some .int)) { frames := 0, cells := 0, slots := 0, locals := 0 } (mPc G o F sz [.ref (mh G), .int x]) (mQi G sz (fun _ u => ((RI tr N u.1 u.2 ∧ ∀ k, k < 7 → u.2 k = F k) ∧ W4 o F u) ∧ MK o F u)) 0 0 (mA G sz) :=
  mQ_mono (m_count l G hDD o F N x hI.1.1 hI.1.2.1 sz) (Nat.le_refl _) (Nat.le_refl _) (fun r u h => ⟨hI.same3 h.1, mk_same h.1⟩)
theorem n9_value (l : Launch) (G : mG) (hDD : mDD G) (o : Nat → Int32) (F : Nat → Nat → Int32) (tr : aM) (N : Nat) (y : Int32) (hI : RI tr N o F) (sz : Nat) : Met l yX8_value (wU yX8_value cX8_value 2 (some .int)) { frames := 203, cells := 0, slots := 0, locals := 4472 } (mPc G o F sz [.ref (mh G), .int y]) (mQi G sz (fun _ u => ((RI tr N u.1 u.2 ∧ ∀ k, k < 7 → u.2 k = F k) ∧ W4 o F u) ∧ MK o F u)) 0 0 (mA G sz) :=
  mQ_mono (m_value l G hDD o F y hI.2.2.2.2 sz) (Nat.le_refl _) (Nat.le_refl _) (fun r u h => ⟨hI.tell3 h, mk_tell h⟩)
theorem n9_sign (l : Launch) (G : mG) (hDD : mDD G) (o : Nat → Int32) (F : Nat → Nat → Int32) (tr : aM) (N : Nat) (y : Int32) (hI : RI tr N o F) (sz : Nat) : Met l yX8_sign (wU yX8_sign cX8_sign 2 (some .int)) { frames := 804, cells := 0, slots := 0, locals := 20147 } (mPc G o F sz [.ref (mh G), .int y]) (mQi G sz (fun _ u => ((RI tr N u.1 u.2 ∧ ∀ k, k < 7 → u.2 k = F k) ∧ W4 o F u) ∧ MK o F u)) 0 0 (mA G sz) := by
  rcases id hI.2.2.2.1 with ⟨-, h22⟩ | ⟨z, ix, hM, h22⟩
  · exact mQ_mono (m_sign0 l G hDD o F y h22 sz) (Nat.le_of_ble_eq_true rfl) (Nat.le_of_ble_eq_true rfl) (fun r u h => ⟨hI.same3 h, mk_same h⟩)
  · exact mQ_mono (m_sign l G hDD o F z ix y hM h22 sz) (Nat.le_refl _) (Nat.le_refl _) (fun r u h => ⟨hI.tell3 h, mk_tell h⟩)
theorem n9_variable (l : Launch) (G : mG) (hDD : mDD G) (o : Nat → Int32) (F : Nat → Nat → Int32) (tr : aM) (N : Nat) (x y : Int32) (hI : RI tr N o F) (sz : Nat) : Met l yX8_variable (wU yX8_variable cX8_variable 3 (some .int)) { frames := 2, cells := 0, slots := 0, locals := 43 } (mPc G o F sz [.ref (mh G), .int x, .int y]) (mQi G sz (fun _ u => ((RI tr N u.1 u.2 ∧ ∀ k, k < 7 → u.2 k = F k) ∧ W4 o F u) ∧ MK o F u)) 0 0 (mA G sz) := by
  rcases id hI.2.2.2.1 with ⟨h14, -⟩ | ⟨z, ix, hM, -⟩
  · exact mQ_mono (m_variable0 l G hDD o F x y (h14.trans nI_0.symm) sz) (Nat.le_of_ble_eq_true rfl) (Nat.le_of_ble_eq_true rfl) (fun r u h => ⟨hI.same3 h, mk_same h⟩)
  · exact mQ_mono (m_variable l G hDD o F z ix x y hM sz) (Nat.le_refl _) (Nat.le_refl _) (fun r u h => ⟨hI.same3 h.1, mk_same h.1⟩)
theorem n9_bound (l : Launch) (G : mG) (hDD : mDD G) (o : Nat → Int32) (F : Nat → Nat → Int32) (tr : aM) (N : Nat) (x ab iv y : Int32) (hI : RI tr N o F) (sz : Nat) : Met l yX8_bound (wU yX8_bound cX8_bound 8 (some .int)) { frames := 804, cells := 0, slots := 0, locals := 20147 } (mPc G o F sz [.ref (mh G), .int x, .int ab, .int iv, .int y]) (mQi G sz (fun _ u => ((RI tr N u.1 u.2 ∧ ∀ k, k < 7 → u.2 k = F k) ∧ W4 o F u) ∧ MK o F u)) 0 0 (mA G sz) := by
  rcases id hI.2.2.2.1 with ⟨h14, -⟩ | ⟨z, ix, hM, -⟩
  · exact mQ_mono (m_bound0 l G hDD o F x ab iv y (h14.trans nI_0.symm) sz) (Nat.le_of_ble_eq_true rfl) (Nat.le_of_ble_eq_true rfl) (fun r u h => ⟨hI.same3 h, mk_same h⟩)
  · exact mQ_mono (m_bound l G hDD o F z ix x ab iv y hM sz) (Nat.le_refl _) (Nat.le_refl _) (fun r u h => ⟨hI.tell3 h, mk_tell h⟩)
theorem n9_node (l : Launch) (G : mG) (hDD : mDD G) (o : Nat → Int32) (F : Nat → Nat → Int32) (tr : aM) (N : Nat) (x v9 a1 a2 a3 : Int32) (hI : RI tr N o F) (sz : Nat) : Met l yX8_node (wU yX8_node cX8_node 8 (some .int)) { frames := 3, cells := 0, slots := 0, locals := 64 } (mPc G o F sz [.ref (mh G), .int x, .int v9, .int a1, .int a2, .int a3]) (mQi G sz (fun r u => (NPost tr N o F x v9 a1 a2 a3 r u ∧ W3 o u.1) ∧ K1 o u.1)) 0 0 (mA G sz) := by
  by_cases hx : ∃ j, j < 12 ∧ x = nI j
  · obtain ⟨j, hj, e⟩ := hx
    rcases (show j = 0 ∨ j = 1 ∨ j = 2 ∨ j = 3 ∨ j = 4 ∨ j = 5 ∨ j = 6 ∨ j = 7 ∨ j = 8 ∨ j = 9 ∨ j = 10 ∨ j = 11 by omega) with rfl | rfl | rfl | rfl | rfl | rfl | rfl | rfl | rfl | rfl | rfl | rfl
    · obtain rfl : x = 0 := e.trans (by decide +kernel)
      exact mQ_mono (m_node_0 l G hDD o F N v9 a1 a2 a3 hI.1.1 hI.1.2.1 sz) (by decide) (by decide) (fun r u h => ⟨⟨np_0 hI h, w3_0 h⟩, k1_0 h⟩)
    · obtain rfl : x = 1 := e.trans (by decide +kernel)
      exact mQ_mono (m_node_1 l G hDD o F N v9 a1 a2 a3 hI.1.1 hI.1.2.1 sz) (by decide) (by decide) (fun r u h => ⟨⟨np_1 hI h, w3_0 h⟩, k1_0 h⟩)
    · obtain rfl : x = 2 := e.trans (by decide +kernel)
      exact mQ_mono (m_node_2 l G hDD o F N v9 a1 a2 a3 hI.1.1 hI.1.2.1 sz) (by decide) (by decide) (fun r u h => ⟨⟨np_2 hI h, w3_0 h⟩, k1_0 h⟩)
    · obtain rfl : x = 3 := e.trans (by decide +kernel)
      exact mQ_mono (m_node_3 l G hDD o F N v9 a1 a2 a3 hI.1.1 hI.1.2.1 sz) (by decide) (by decide) (fun r u h => ⟨⟨np_3 hI h, w3_1 h⟩, k1_1 h⟩)
    · obtain rfl : x = 4 := e.trans (by decide +kernel)
      exact mQ_mono (m_node_4 l G hDD o F N v9 a1 a2 a3 hI.1.1 hI.1.2.1 sz) (by decide) (by decide) (fun r u h => ⟨⟨np_4 hI h, w3_2 h⟩, k1_2 h⟩)
    · obtain rfl : x = 5 := e.trans (by decide +kernel)
      exact mQ_mono (m_node_5 l G hDD o F N v9 a1 a2 a3 hI.1.1 hI.1.2.1 sz) (by decide) (by decide) (fun r u h => ⟨⟨np_5 hI h, w3_0 h⟩, k1_0 h⟩)
    · obtain rfl : x = 6 := e.trans (by decide +kernel)
      exact mQ_mono (m_node_6 l G hDD o F N v9 a1 a2 a3 hI.1.1 hI.1.2.1 sz) (by decide) (by decide) (fun r u h => ⟨⟨np_6 hI h, w3_1 h⟩, k1_1 h⟩)
    · obtain rfl : x = 7 := e.trans (by decide +kernel)
      exact mQ_mono (m_node_7 l G hDD o F N v9 a1 a2 a3 hI.1.1 hI.1.2.1 sz) (by decide) (by decide) (fun r u h => ⟨⟨np_7 hI h, w3_2 h⟩, k1_2 h⟩)
    · obtain rfl : x = 8 := e.trans (by decide +kernel)
      exact mQ_mono (m_node_8 l G hDD o F N v9 a1 a2 a3 hI.1.1 hI.1.2.1 sz) (by decide) (by decide) (fun r u h => ⟨⟨np_8 hI h, w3_2 h⟩, k1_2 h⟩)
    · obtain rfl : x = 9 := e.trans (by decide +kernel)
      exact mQ_mono (m_node_9 l G hDD o F N v9 a1 a2 a3 hI.1.1 hI.1.2.1 sz) (by decide) (by decide) (fun r u h => ⟨⟨np_9 hI h, w3_3 h⟩, k1_3 h⟩)
    · obtain rfl : x = 10 := e.trans (by decide +kernel)
      exact mQ_mono (m_node_10 l G hDD o F N v9 a1 a2 a3 hI.1.1 hI.1.2.1 sz) (by decide) (by decide) (fun r u h => ⟨⟨np_10 hI h, w3_2 h⟩, k1_2 h⟩)
    · obtain rfl : x = 11 := e.trans (by decide +kernel)
      exact mQ_mono (m_node_11 l G hDD o F N v9 a1 a2 a3 hI.1.1 hI.1.2.1 sz) (by decide) (by decide) (fun r u h => ⟨⟨np_11 hI h, w3_2 h⟩, k1_2 h⟩)
  · exact mQ_mono (m_node_bad l G hDD o F x v9 a1 a2 a3 hx sz) (by decide) (by decide) (fun r u h => ⟨⟨Or.inl ⟨h.1, h.2, fun z => hx (isK_lt z.1)⟩, w3_eq h.2⟩, k1_eq h.2⟩)
