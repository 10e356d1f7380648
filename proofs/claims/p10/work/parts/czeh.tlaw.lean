/-! ===== the latest type() in both programs ===== -/
def MK (o : Nat → Int32) (F : Nat → Nat → Int32) (u : mS) : Prop := (∀ z ix, MR z ix o F → MR z ix u.1 u.2) ∧ u.1 14 = o 14 ∧ u.1 24 = o 24
theorem MR.kq9 {L : List Nat} {z : aS} {ix : Nat → Nat → Nat} {o : Nat → Int32} {F : Nat → Nat → Int32} {u : mS} (h : MR z ix o F) (hK : Kq L o F u) (hL : ∀ k ∈ [7, 14, 16, 26, 27, 24, 25, 28, 8, 9, 10, 11, 12, 13, 15, 17, 18, 19, 20, 21, 29, 30], k ∉ L) : MR z ix u.1 u.2 := by
  have eo : ∀ k, k ∈ [7, 14, 16, 26, 27, 24, 25, 28, 8, 9, 10, 11, 12, 13, 15, 17, 18, 19, 20, 21, 29, 30] → u.1 k = o k ∧ u.2 k = F k := fun k hk => hK k (hL k hk)
  unfold MR R0 RT RA RR RV RB Rw RQ at h ⊢
  rw [(eo 7 (by decide)).1, (eo 14 (by decide)).1, (eo 16 (by decide)).1, (eo 26 (by decide)).1, (eo 27 (by decide)).1, (eo 24 (by decide)).1, (eo 25 (by decide)).1, (eo 28 (by decide)).1, (eo 8 (by decide)).2, (eo 9 (by decide)).2, (eo 10 (by decide)).2, (eo 11 (by decide)).2, (eo 12 (by decide)).2, (eo 13 (by decide)).2, (eo 15 (by decide)).2, (eo 17 (by decide)).2, (eo 18 (by decide)).2, (eo 19 (by decide)).2, (eo 20 (by decide)).2, (eo 21 (by decide)).2, (eo 29 (by decide)).2, (eo 30 (by decide)).2]
  exact h
theorem mk_same {o : Nat → Int32} {F : Nat → Nat → Int32} {u : mS} (h : u = (o, F)) : MK o F u := by
  subst h
  exact ⟨fun _ _ h => h, rfl, rfl⟩
theorem mk_of {L : List Nat} {o : Nat → Int32} {F : Nat → Nat → Int32} {u : mS} (hK : Kq L o F u) (hL : ∀ k ∈ [7, 14, 16, 26, 27, 24, 25, 28, 8, 9, 10, 11, 12, 13, 15, 17, 18, 19, 20, 21, 29, 30], k ∉ L) : MK o F u := ⟨fun _ _ h => h.kq9 hK hL, (hK 14 (hL 14 (by decide))).1, (hK 24 (hL 24 (by decide))).1⟩
def K1 (o o' : Nat → Int32) : Prop := ∀ k, k ≠ 0 → o' k = o k
theorem mk_node {o : Nat → Int32} {F : Nat → Nat → Int32} {u : mS} (h : K1 o u.1) (hF : ∀ k, 7 ≤ k → u.2 k = F k) : MK o F u := by
  refine mk_of (L := [0, 1, 2, 3, 4, 5, 6]) (fun k hk => ⟨h k (fun e => hk (by rw [e]; decide)), hF k ?_⟩) (by decide)
  rcases Nat.lt_or_ge k 7 with h7 | h7
  · exact absurd (by simp only [List.mem_cons, List.not_mem_nil, or_false]; omega) hk
  · exact h7
section K1s
variable {o : Nat → Int32} {F F0 F' : Nat → Nat → Int32} {r a1 a2 a3 : Int32} {N : Nat} {u : mS} {P Q P1 A B C D : Prop} {y : Int32}
theorem k1_eq (h : u = (o, F)) : K1 o u.1 := by
  subst h
  exact fun _ _ => rfl
theorem k1_up (h : u = (upd o 0 y, F')) : K1 o u.1 := by
  subst h
  exact fun _ hk => upd_n hk
theorem k1_0 (h : (r = -1 ∧ u = (o, F) ∧ P) ∨ (P1 ∧ Q ∧ ((A ∧ B ∧ u = (o, F)) ∨ (C ∧ D ∧ u = (upd o 0 y, F'))))) : K1 o u.1 := by
  rcases h with ⟨-, h, -⟩ | ⟨-, -, ⟨-, -, h⟩ | ⟨-, -, h⟩⟩
  · exact k1_eq h
  · exact k1_eq h
  · exact k1_up h
theorem k1_1 {Fq : Nat → Nat → Nat → Int32} (h : (r = -1 ∧ u = (o, F) ∧ P) ∨ (P1 ∧ Q ∧ ((A ∧ B ∧ u = (o, F)) ∨ (C ∧ D ∧ ∃ qa, qa < N ∧ a1 = nI qa ∧ u = (upd o 0 y, Fq qa))))) : K1 o u.1 := by
  rcases h with ⟨-, h, -⟩ | ⟨-, -, ⟨-, -, h⟩ | ⟨-, -, qa, -, -, h⟩⟩
  · exact k1_eq h
  · exact k1_eq h
  · exact k1_up h
theorem k1_2 {Fq : Nat → Nat → Nat → Nat → Int32} (h : (r = -1 ∧ u = (o, F) ∧ P) ∨ (P1 ∧ Q ∧ ((A ∧ B ∧ u = (o, F)) ∨ (C ∧ D ∧ ∃ qa, qa < N ∧ a1 = nI qa ∧ ∃ qb, qb < N ∧ a2 = nI qb ∧ u = (upd o 0 y, Fq qa qb))))) : K1 o u.1 := by
  rcases h with ⟨-, h, -⟩ | ⟨-, -, ⟨-, -, h⟩ | ⟨-, -, qa, -, -, qb, -, -, h⟩⟩
  · exact k1_eq h
  · exact k1_eq h
  · exact k1_up h
theorem k1_3 {Fq : Nat → Nat → Nat → Nat → Nat → Int32} (h : (r = -1 ∧ u = (o, F) ∧ P) ∨ (P1 ∧ Q ∧ ((A ∧ B ∧ u = (o, F)) ∨ (C ∧ D ∧ ∃ qa, qa < N ∧ a1 = nI qa ∧ ∃ qb, qb < N ∧ a2 = nI qb ∧ ∃ qc, qc < N ∧ a3 = nI qc ∧ u = (upd o 0 y, Fq qa qb qc))))) : K1 o u.1 := by
  rcases h with ⟨-, h, -⟩ | ⟨-, -, ⟨-, -, h⟩ | ⟨-, -, qa, -, -, qb, -, -, qc, -, -, h⟩⟩
  · exact k1_eq h
  · exact k1_eq h
  · exact k1_up h
end K1s
theorem n9_node (l : Launch) (G : mG) (hDD : mDD G) (o : Nat → Int32) (F : Nat → Nat → Int32) (tr : aM) (N : Nat) (x v9 a1 a2 a3 : Int32) (hI : RI tr N o F) (sz : Nat) : Met l yX8_node (wU yX8_node cX8_node 8 (some .int)) { frames := 3, cells := 0, slots := 0, locals := 64 } (mPc G o F sz [.ref (mh G), .int x, .int v9, .int a1, .int a2, .int a3]) (mQi G sz (fun r u => (NPost tr N o F x v9 a1 a2 a3 r u ∧ W3 o u.1) ∧ K1 o u.1)) 0 0 (mA G sz) := by
  by_cases hx : ∃ j, j < 12 ∧ x = nI j
  · obtain ⟨j, hj, e⟩ := hx
    rcases (show j = 0 ∨ j = 1 ∨ j = 2 ∨ j = 3 ∨ j = 4 ∨ j = 5 ∨ j = 6 ∨ j = 7 ∨ j = 8 ∨ j = 9 ∨ j = 10 ∨ j = 11 by omega) with rfl | rfl | rfl | rfl | rfl | rfl | rfl | rfl | rfl | rfl | rfl | rfl
    · obtain rfl : x = 0 := e.trans (by decide +kernel)
      exact mQ_mono (m_node_0 l G hDD o F N v9 a1 a2 a3 hI.1.1 hI.1.2.1 sz) (by decide) (by decide) (fun r u h => ⟨⟨np_0 hI h, w3_0 h⟩, k1_0 h⟩)
    · obtain rfl : x = 1 := e.trans (by decide +kernel)
      exact mQ_mono (m_node_1 l G hDD o F N v9 a1 a2 a3 hI.1.1 hI.1.2.1 sz) (by decide) (by decide) (fun r u h => ⟨⟨np_1 hI h, w3_0 h⟩, k1_0 h⟩)
    · obtain rfl : x = 2 := e.trans (by decide +kernel)
      exact mQ_mono (m_node_2 l G hDD o F N v9 a1 a2 a3 hI.1.1 hI.1.2.1 sz) (by decide) (by decide) (fun r u h => ⟨⟨np_2 hI h, w3_0 h⟩, k1_0 h⟩)
    · obtain rfl : x = 3 := e.trans (by decide +kernel)
      exact mQ_mono (m_node_3 l G hDD o F N v9 a1 a2 a3 hI.1.1 hI.1.2.1 sz) (by decide) (by decide) (fun r u h => ⟨⟨np_3 hI h, w3_1 h⟩, k1_1 h⟩)
    · obtain rfl : x = 4 := e.trans (by decide +kernel)
      exact mQ_mono (m_node_4 l G hDD o F N v9 a1 a2 a3 hI.1.1 hI.1.2.1 sz) (by decide) (by decide) (fun r u h => ⟨⟨np_4 hI h, w3_2 h⟩, k1_2 h⟩)
    · obtain rfl : x = 5 := e.trans (by decide +kernel)
      exact mQ_mono (m_node_5 l G hDD o F N v9 a1 a2 a3 hI.1.1 hI.1.2.1 sz) (by decide) (by decide) (fun r u h => ⟨⟨np_5 hI h, w3_0 h⟩, k1_0 h⟩)
    · obtain rfl : x = 6 := e.trans (by decide +kernel)
      exact mQ_mono (m_node_6 l G hDD o F N v9 a1 a2 a3 hI.1.1 hI.1.2.1 sz) (by decide) (by decide) (fun r u h => ⟨⟨np_6 hI h, w3_1 h⟩, k1_1 h⟩)
    · obtain rfl : x = 7 := e.trans (by decide +kernel)
      exact mQ_mono (m_node_7 l G hDD o F N v9 a1 a2 a3 hI.1.1 hI.1.2.1 sz) (by decide) (by decide) (fun r u h => ⟨⟨np_7 hI h, w3_2 h⟩, k1_2 h⟩)
    · obtain rfl : x = 8 := e.trans (by decide +kernel)
      exact mQ_mono (m_node_8 l G hDD o F N v9 a1 a2 a3 hI.1.1 hI.1.2.1 sz) (by decide) (by decide) (fun r u h => ⟨⟨np_8 hI h, w3_2 h⟩, k1_2 h⟩)
    · obtain rfl : x = 9 := e.trans (by decide +kernel)
      exact mQ_mono (m_node_9 l G hDD o F N v9 a1 a2 a3 hI.1.1 hI.1.2.1 sz) (by decide) (by decide) (fun r u h => ⟨⟨np_9 hI h, w3_3 h⟩, k1_3 h⟩)
    · obtain rfl : x = 10 := e.trans (by decide +kernel)
      exact mQ_mono (m_node_10 l G hDD o F N v9 a1 a2 a3 hI.1.1 hI.1.2.1 sz) (by decide) (by decide) (fun r u h => ⟨⟨np_10 hI h, w3_2 h⟩, k1_2 h⟩)
    · obtain rfl : x = 11 := e.trans (by decide +kernel)
      exact mQ_mono (m_node_11 l G hDD o F N v9 a1 a2 a3 hI.1.1 hI.1.2.1 sz) (by decide) (by decide) (fun r u h => ⟨⟨np_11 hI h, w3_2 h⟩, k1_2 h⟩)
  · exact mQ_mono (m_node_bad l G hDD o F x v9 a1 a2 a3 hx sz) (by decide) (by decide) (fun r u h => ⟨⟨Or.inl ⟨h.1, h.2, fun z => hx (isK_lt z.1)⟩, w3_eq h.2⟩, k1_eq h.2⟩)
