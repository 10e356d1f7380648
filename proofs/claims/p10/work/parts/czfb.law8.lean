/-! ===== the signs of the latest type(), in both programs ===== -/
def SX (S : cS) (z : aS) (o : Nat → Int32) : Prop := SO S w00 ∧ ((o 22 = 0 ∧ S.1 14 ≠ 0) ∨ (o 22 ≠ 0 ∧ S.1 14 = 0 ∧ ∃ t, o 23 = nI t ∧ t < nT z ∧ SG S 401 (TX9 z t 0)))
def SXe (S : cS) (o : Nat → Int32) (F : Nat → Nat → Int32) : Prop := ∃ z, KT S z ∧ ((Z0 z ∧ o 14 = 0 ∧ o 22 = 0) ∨ ∃ ix, MR z ix o F) ∧ SX S z o
def MK8 (o : Nat → Int32) (F : Nat → Nat → Int32) (u : mS) : Prop := MK o F u ∧ u.1 22 = o 22 ∧ u.1 23 = o 23
theorem mk8_same {o : Nat → Int32} {F : Nat → Nat → Int32} {u : mS} (h : u = (o, F)) : MK8 o F u := by
  subst h
  exact ⟨mk_same rfl, rfl, rfl⟩
theorem mk8_of {L : List Nat} {o : Nat → Int32} {F : Nat → Nat → Int32} {u : mS} (hK : Kq L o F u) (hL : ∀ k ∈ [7, 14, 16, 26, 27, 24, 25, 28, 8, 9, 10, 11, 12, 13, 15, 17, 18, 19, 20, 21, 29, 30], k ∉ L) (h2 : 22 ∉ L ∧ 23 ∉ L) : MK8 o F u := ⟨mk_of hK hL, (hK 22 h2.1).1, (hK 23 h2.2).1⟩
theorem mk8_tell {o : Nat → Int32} {F : Nat → Nat → Int32} {u : mS} (hK : Kq LTa o F u) : MK8 o F u := mk8_of hK (by decide) (by decide)
theorem mk8_np {tr : aM} {N : Nat} {o : Nat → Int32} {F : Nat → Nat → Int32} {x v9 a1 a2 a3 r : Int32} {u : mS} (h : NPost tr N o F x v9 a1 a2 a3 r u) (hk : K1 o u.1) : MK8 o F u := by
  rcases h with ⟨-, h, -⟩ | ⟨-, -, -, h⟩ | ⟨-, -, -, k, v, qs, n1, n2, -⟩
  · exact mk8_same h
  · exact mk8_same h
  · exact ⟨mk_node hk n2.2.2.2.2.2.2, hk 22 (by decide), hk 23 (by decide)⟩
theorem mk8_work {o o2 : Nat → Int32} {F F2 : Nat → Nat → Int32} {A P : Prop} {B1 B2 B3 B4 B5 B6 : Nat → Nat → Prop} (h : (A ∧ (o2, F2) = (o, F) ∧ P) ∨ ∃ q w9, B1 q w9 ∧ B2 q w9 ∧ B3 q w9 ∧ B4 q w9 ∧ B5 q w9 ∧ Kq LWa o F (o2, F2) ∧ B6 q w9) : MK8 o F (o2, F2) := by
  rcases h with ⟨-, h, -⟩ | ⟨q, w9, -, -, -, -, -, h, -⟩
  · exact mk8_same h
  · exact mk8_of h (by decide) (by decide)
theorem SXe.so {S : cS} {o : Nat → Int32} {F : Nat → Nat → Int32} (h : SXe S o F) : SO S w00 := by
  obtain ⟨z, -, -, h, -⟩ := h
  exact h
theorem SXe.keepB {rs is : List Nat} {S u : cS} {o o' : Nat → Int32} {F F' : Nat → Nat → Int32} (h : SXe S o F) (a : AW rs is S u) (hr : ∀ r ∈ [6, 7, 8, 9, 10, 11, 14, 35], r ∉ rs) (hi : 14 ∉ is ∧ 201 ∉ is) (hs : SO u w00) (m : MK8 o F (o', F')) : SXe u o' F' := by
  obtain ⟨z, h1, h2, -, h4⟩ := h
  obtain ⟨⟨m1, m2, m3⟩, m22, m23⟩ := m
  have m22 : o' 22 = o 22 := m22
  have m23 : o' 23 = o 23 := m23
  refine ⟨z, h1.aw a hr, ?_, hs, ?_⟩
  · rcases h2 with ⟨h5, h6, h7⟩ | ⟨ix, h5⟩
    · exact Or.inl ⟨h5, m2.trans h6, m22.trans h7⟩
    · exact Or.inr ⟨ix, m1 z ix h5⟩
  · rw [m22, m23, a.1 14 hi.1]
    rcases h4 with h5 | ⟨h5, h6, t, h7, h8, h9⟩
    · exact Or.inl h5
    · exact Or.inr ⟨h5, h6, t, h7, h8, h9.aw a (by decide) (by decide) hi.2⟩
theorem SXe.keep {rs is : List Nat} {S u : cS} {o o' : Nat → Int32} {F F' : Nat → Nat → Int32} (h : SXe S o F) (a : AW rs is S u) (hr : ∀ r ∈ [6, 7, 8, 9, 10, 11, 14, 22, 35], r ∉ rs) (hi : 14 ∉ is ∧ 201 ∉ is) (m : MK8 o F (o', F')) : SXe u o' F' := h.keepB a (fun r q => hr r (by revert r; decide)) hi (h.so.aw a (hr 22 (by decide))) m
theorem type_x {S S2 : cS} {tr : aM} {N tm : Nat} {o o2 : Nat → Int32} {F F2 : Nat → Nat → Int32} {x r1 r2 : Int32} (hs : SXe S o F) (hN : N ≤ 120)
    (hc : (r1 = -1 ∧ S2 = S ∧ ¬ ∃ j, j < N ∧ x = nI j) ∨ ∃ n9 tm', n9 < N ∧ x = nI n9 ∧ CI S2 N ∧ KL S2 (ty tr n9 60 (zS n9) n9 0).1 tm' ∧ tm' ≤ tm + 1500 + cntT tr 60 n9 ∧ r1 = tans (ty tr n9 60 (zS n9) n9 0) ∧ S2.1 14 = sc (sto (ty tr n9 60 (zS n9) n9 0).1) ∧ SO S2 w00 ∧ (sto (ty tr n9 60 (zS n9) n9 0).1 = 0 → (ty tr n9 60 (zS n9) n9 0).2 < nT (ty tr n9 60 (zS n9) n9 0).1 ∧ SG S2 401 (TX9 (ty tr n9 60 (zS n9) n9 0).1 (ty tr n9 60 (zS n9) n9 0).2 0)))
    (hm : (r2 = -1 ∧ (o2, F2) = (o, F) ∧ ¬ ∃ j, j < N ∧ x = nI j) ∨ ∃ q, q < N ∧ x = nI q ∧ (∃ ix, MR (ty tr q 60 (zS q) q 0).1 ix o2 F2) ∧ o2 22 = (if sto (ty tr q 60 (zS q) q 0).1 = 0 then 1 else 0) ∧ (sto (ty tr q 60 (zS q) q 0).1 = 0 → o2 23 = nI (ty tr q 60 (zS q) q 0).2 ∧ (ty tr q 60 (zS q) q 0).2 < nT (ty tr q 60 (zS q) q 0).1) ∧ r2 = (if sto (ty tr q 60 (zS q) q 0).1 = 0 then nI (nV (ty tr q 60 (zS q) q 0).1) else sc (sto (ty tr q 60 (zS q) q 0).1)) ∧ (∀ k, k < 7 ∨ 45 < k → o2 k = o k ∧ F2 k = F k)) : SXe S2 o2 F2 := by
  rcases hc with ⟨c1, c2, c3⟩ | ⟨q, tm', c1, c2, c3, c4, c5, c6, c7, c8, c9⟩
  · rcases hm with ⟨m1, m2, m3⟩ | ⟨q, m1, m2, -⟩
    · obtain ⟨rfl, rfl⟩ := Prod.mk.inj m2
      subst c2
      exact hs
    · exact absurd ⟨q, m1, m2⟩ c3
  · rcases hm with ⟨m1, m2, m3⟩ | ⟨q', m1, m2, m3, m4, m5, m6, m7⟩
    · exact absurd ⟨q, c1, c2⟩ m3
    · obtain rfl : q = q' := (nI_eq (by omega) (by omega)).mp (c2.symm.trans m2)
      refine ⟨_, c4.1, Or.inr m3, c8, ?_⟩
      by_cases e : sto (ty tr q 60 (zS q) q 0).1 = 0
      · rw [if_pos e] at m4
        obtain ⟨p1, p2⟩ := m5 e
        exact Or.inr ⟨by rw [m4]; decide, by rw [c7, e]; rfl, _, p1, p2, (c9 e).2⟩
      · rw [if_neg e] at m4
        exact Or.inl ⟨m4, by rw [c7]; exact fun h => absurd (h ▸ sc_neg e) (by decide)⟩
theorem ty_old {S S2 : cS} {tr : aM} {N tm : Nat} {x r1 : Int32} (hc : (r1 = -1 ∧ S2 = S ∧ ¬ ∃ j, j < N ∧ x = nI j) ∨ ∃ n9 tm', n9 < N ∧ x = nI n9 ∧ CI S2 N ∧ KL S2 (ty tr n9 60 (zS n9) n9 0).1 tm' ∧ tm' ≤ tm + 1500 + cntT tr 60 n9 ∧ r1 = tans (ty tr n9 60 (zS n9) n9 0) ∧ S2.1 14 = sc (sto (ty tr n9 60 (zS n9) n9 0).1) ∧ SO S2 w00 ∧ (sto (ty tr n9 60 (zS n9) n9 0).1 = 0 → (ty tr n9 60 (zS n9) n9 0).2 < nT (ty tr n9 60 (zS n9) n9 0).1 ∧ SG S2 401 (TX9 (ty tr n9 60 (zS n9) n9 0).1 (ty tr n9 60 (zS n9) n9 0).2 0))) : (r1 = -1 ∧ S2 = S ∧ ¬ ∃ j, j < N ∧ x = nI j) ∨ ∃ n9 tm', n9 < N ∧ x = nI n9 ∧ CI S2 N ∧ KL S2 (ty tr n9 60 (zS n9) n9 0).1 tm' ∧ tm' ≤ tm + 1500 + cntT tr 60 n9 ∧ r1 = tans (ty tr n9 60 (zS n9) n9 0) ∧ S2.1 14 = sc (sto (ty tr n9 60 (zS n9) n9 0).1) := by
  rcases hc with h | ⟨q, tm', c1, c2, c3, c4, c5, c6, c7, -⟩
  · exact Or.inl h
  · exact Or.inr ⟨q, tm', c1, c2, c3, c4, c5, c6, c7⟩
theorem fld_old {S S2 : cS} {N : Nat} {x y w r1 : Int32} (hc : (r1 = -1 ∧ S2 = S ∧ ¬ FOK S N x y w) ∨ (FOK S N x y w ∧ (¬ rget (kF S 0) N x = 5 ∨ ¬ t_hasL (kF S 3) (kF S 5) N x y = 0) ∧ r1 = -4 ∧ S2 = S) ∨ (FOK S N x y w ∧ (rget (kF S 0) N x = 5 ∧ t_hasL (kF S 3) (kF S 5) N x y = 0) ∧ ¬ t_pc (kF S 3) N x < 6 ∧ r1 = -2 ∧ S2 = S) ∨ (FOK S N x y w ∧ (rget (kF S 0) N x = 5 ∧ t_hasL (kF S 3) (kF S 5) N x y = 0) ∧ t_pc (kF S 3) N x < 6 ∧ r1 = t_pc (kF S2 3) N x ∧ FLD S S2 N x y w ∧ S0 S2 ∧ S2.1 13 = -9 ∧ S2.1 14 = -4)) : (r1 = -1 ∧ S2 = S ∧ ¬ FOK S N x y w) ∨ (FOK S N x y w ∧ (¬ rget (kF S 0) N x = 5 ∨ ¬ t_hasL (kF S 3) (kF S 5) N x y = 0) ∧ r1 = -4 ∧ S2 = S) ∨ (FOK S N x y w ∧ (rget (kF S 0) N x = 5 ∧ t_hasL (kF S 3) (kF S 5) N x y = 0) ∧ ¬ t_pc (kF S 3) N x < 6 ∧ r1 = -2 ∧ S2 = S) ∨ (FOK S N x y w ∧ (rget (kF S 0) N x = 5 ∧ t_hasL (kF S 3) (kF S 5) N x y = 0) ∧ t_pc (kF S 3) N x < 6 ∧ r1 = t_pc (kF S2 3) N x ∧ FLD S S2 N x y w ∧ S0 S2 ∧ S2.1 13 = -9) := by
  rcases hc with h | h | h | ⟨c1, c2, c3, c4, c5, c6, c7, -⟩
  · exact Or.inl h
  · exact Or.inr (Or.inl h)
  · exact Or.inr (Or.inr (Or.inl h))
  · exact Or.inr (Or.inr (Or.inr ⟨c1, c2, c3, c4, c5, c6, c7⟩))
theorem nI_nn {k : Nat} {a : Int32} (hk : k < 2 ^ 31) (ha : a < 0) : nI k ≠ a := fun e => by
  rw [← e] at ha
  exact nI_n0 hk ha
theorem field_x {S S2 : cS} {tr : aM} {N : Nat} {o o2 : Nat → Int32} {F F2 : Nat → Nat → Int32} {x y w r1 r2 : Int32} (hs : SXe S o F) (er : r1 = r2) (ha : AW [2, 3, 4, 5, 6, 7, 8, 9, 16, 14, 10, 11, 12, 13, 17, 18] [12, 13, 14] S S2) (hc : (r1 = -1 ∧ S2 = S ∧ ¬ FOK S N x y w) ∨ (FOK S N x y w ∧ (¬ rget (kF S 0) N x = 5 ∨ ¬ t_hasL (kF S 3) (kF S 5) N x y = 0) ∧ r1 = -4 ∧ S2 = S) ∨ (FOK S N x y w ∧ (rget (kF S 0) N x = 5 ∧ t_hasL (kF S 3) (kF S 5) N x y = 0) ∧ ¬ t_pc (kF S 3) N x < 6 ∧ r1 = -2 ∧ S2 = S) ∨ (FOK S N x y w ∧ (rget (kF S 0) N x = 5 ∧ t_hasL (kF S 3) (kF S 5) N x y = 0) ∧ t_pc (kF S 3) N x < 6 ∧ r1 = t_pc (kF S2 3) N x ∧ FLD S S2 N x y w ∧ S0 S2 ∧ S2.1 13 = -9 ∧ S2.1 14 = -4))
    (hm : ((o2, F2) = (o, F) ∧ r2 = -1 ∧ ¬ ∃ q y9 p9, q < N ∧ x = nI q ∧ y9 < 26 ∧ y = nI y9 ∧ p9 < N ∧ w = nI p9 ∧ F 6 p9 = -9 ∧ ¬ Wi tr q p9) ∨ ∃ q y9 p9, (q < N ∧ x = nI q ∧ y9 < 26 ∧ y = nI y9 ∧ p9 < N ∧ w = nI p9 ∧ F 6 p9 = -9 ∧ ¬ Wi tr q p9) ∧ ((tr 0 q = 5 ∧ tr 2 q = 6 ∧ (∀ i, i < tr 2 q → F 5 (6 * q + i) ≠ nI y9) ∧ r2 = -2 ∧ (o2, F2) = (o, F)) ∨ ((tr 0 q ≠ 5 ∨ ∃ i, i < tr 2 q ∧ F 5 (6 * q + i) = nI y9) ∧ r2 = -4 ∧ (o2, F2) = (o, F)) ∨ (tr 0 q = 5 ∧ tr 2 q < 6 ∧ (∀ i, i < tr 2 q → F 5 (6 * q + i) ≠ nI y9) ∧ r2 = nI (tr 2 q + 1) ∧ (o2, F2) = (upd (upd (upd (upd (upd (upd (upd (upd (upd (upd (upd (upd o 7 2) 14 0) 16 0) 22 0) 24 (-9)) 26 0) 27 0) 28 0) 31 0) 32 0) 33 0) 34 0, fput (fput (fput (fput F 4 (6 * q + tr 2 q) (nI p9)) 5 (6 * q + tr 2 q) (nI y9)) 6 p9 (nI q)) 3 q (nI (tr 2 q + 1)))))) : SXe S2 o2 F2 := by
  have hm9 : ((o2, F2) = (o, F) ∧ r2 < 0) ∨ (o2 14 = 0 ∧ o2 22 = 0 ∧ ∃ k, k < 2 ^ 31 ∧ r2 = nI k) := by
    rcases hm with ⟨m1, m2, -⟩ | ⟨q, y9, p9, -, ⟨-, -, -, m1, m2⟩ | ⟨-, m1, m2⟩ | ⟨-, m0, -, m1, m2⟩⟩
    · exact Or.inl ⟨m1, by rw [m2]; decide⟩
    · exact Or.inl ⟨m2, by rw [m1]; decide⟩
    · exact Or.inl ⟨m2, by rw [m1]; decide⟩
    · have e := (Prod.mk.inj m2).1
      exact Or.inr ⟨by rw [e]; rfl, by rw [e]; rfl, _, by omega, m1⟩
  have hc9 : (S2 = S ∧ r1 < 0) ∨ ((∃ k, k < 2 ^ 31 ∧ r1 = nI k) ∧ TY S2 2 0 0 0 0 0 ∧ S0 S2 ∧ S2.1 14 = -4) := by
    rcases hc with ⟨c1, c2, -⟩ | ⟨-, -, c1, c2⟩ | ⟨-, -, -, c1, c2⟩ | ⟨-, -, -, c1, c2, c3, -, c4⟩
    · exact Or.inl ⟨c2, by rw [c1]; decide⟩
    · exact Or.inl ⟨c2, by rw [c1]; decide⟩
    · exact Or.inl ⟨c2, by rw [c1]; decide⟩
    · obtain ⟨j, hj, e⟩ := t_pc_nI (kF S2 3) N x
      exact Or.inr ⟨⟨j, hj, c1.trans e⟩, c2.2.2.2.2.2.2.2, c3, c4⟩
  rcases hc9 with ⟨c1, c2⟩ | ⟨⟨k, hk, c1⟩, c2, c3, c4⟩
  · rcases hm9 with ⟨m1, m2⟩ | ⟨-, -, k, hk, m1⟩
    · obtain ⟨rfl, rfl⟩ := Prod.mk.inj m1
      subst c1
      exact hs
    · exact absurd (m1.symm.trans er.symm) (nI_nn hk c2)
  · rcases hm9 with ⟨m1, m2⟩ | ⟨m1, m2, -⟩
    · exact absurd (c1.symm.trans er) (nI_nn hk m2)
    · obtain ⟨kt, -⟩ := kt_start c2 c3 (z0_zS 0)
      exact ⟨zS 0, kt, Or.inl ⟨z0_zS 0, m1, m2⟩, hs.so.aw ha (by decide), Or.inl ⟨m2, by rw [c4]; decide⟩⟩

theorem n8_told (l : Launch) (G : mG) (hDD : mDD G) (o : Nat → Int32) (F : Nat → Nat → Int32) (tr : aM) (N : Nat) (x y : Int32) (hI : RI tr N o F) (sz : Nat) : Met l yX8_told (wU yX8_told cX8_told 3 (some .int)) { frames := 2, cells := 0, slots := 0, locals := 43 } (mPc G o F sz [.ref (mh G), .int x, .int y]) (mQi G sz (fun _ u => ((RI tr N u.1 u.2 ∧ ∀ k, k < 7 → u.2 k = F k) ∧ W4 o F u) ∧ MK8 o F u)) 0 0 (mA G sz) :=
  mQ_mono (m_told l G hDD o F N x y hI.1.1 hI.1.2.1 sz) (Nat.le_refl _) (Nat.le_refl _) (fun r u h => ⟨hI.same3 h.1, mk8_same h.1⟩)

theorem n8_where (l : Launch) (G : mG) (hDD : mDD G) (o : Nat → Int32) (F : Nat → Nat → Int32) (tr : aM) (N : Nat) (hI : RI tr N o F) (sz : Nat) : Met l yX8_where (wU yX8_where cX8_where 1 (some .int)) { frames := 0, cells := 0, slots := 0, locals := 0 } (mPc G o F sz [.ref (mh G)]) (mQi G sz (fun _ u => ((RI tr N u.1 u.2 ∧ ∀ k, k < 7 → u.2 k = F k) ∧ W4 o F u) ∧ MK8 o F u)) 0 0 (mA G sz) :=
  mQ_mono (m_where l G hDD o F sz) (Nat.le_refl _) (Nat.le_refl _) (fun r u h => ⟨hI.same3 h.1, mk8_same h.1⟩)

theorem n8_steps (l : Launch) (G : mG) (hDD : mDD G) (o : Nat → Int32) (F : Nat → Nat → Int32) (tr : aM) (N : Nat) (hI : RI tr N o F) (sz : Nat) : Met l yX8_steps (wU yX8_steps cX8_steps 1 (some .int)) { frames := 0, cells := 0, slots := 0, locals := 0 } (mPc G o F sz [.ref (mh G)]) (mQi G sz (fun _ u => ((RI tr N u.1 u.2 ∧ ∀ k, k < 7 → u.2 k = F k) ∧ W4 o F u) ∧ MK8 o F u)) 0 0 (mA G sz) :=
  mQ_mono (m_steps l G hDD o F sz) (Nat.le_refl _) (Nat.le_refl _) (fun r u h => ⟨hI.same3 h.1, mk8_same h.1⟩)

theorem n8_worked (l : Launch) (G : mG) (hDD : mDD G) (o : Nat → Int32) (F : Nat → Nat → Int32) (tr : aM) (N : Nat) (hI : RI tr N o F) (sz : Nat) : Met l yX8_worked (wU yX8_worked cX8_worked 1 (some .int)) { frames := 0, cells := 0, slots := 0, locals := 0 } (mPc G o F sz [.ref (mh G)]) (mQi G sz (fun _ u => ((RI tr N u.1 u.2 ∧ ∀ k, k < 7 → u.2 k = F k) ∧ W4 o F u) ∧ MK8 o F u)) 0 0 (mA G sz) :=
  mQ_mono (m_worked l G hDD o F sz) (Nat.le_refl _) (Nat.le_refl _) (fun r u h => ⟨hI.same3 h.1, mk8_same h.1⟩)

theorem n8_stuck (l : Launch) (G : mG) (hDD : mDD G) (o : Nat → Int32) (F : Nat → Nat → Int32) (tr : aM) (N : Nat) (hI : RI tr N o F) (sz : Nat) : Met l yX8_stuck (wU yX8_stuck cX8_stuck 1 (some .int)) { frames := 0, cells := 0, slots := 0, locals := 0 } (mPc G o F sz [.ref (mh G)]) (mQi G sz (fun _ u => ((RI tr N u.1 u.2 ∧ ∀ k, k < 7 → u.2 k = F k) ∧ W4 o F u) ∧ MK8 o F u)) 0 0 (mA G sz) :=
  mQ_mono (m_stuck l G hDD o F sz) (Nat.le_refl _) (Nat.le_refl _) (fun r u h => ⟨hI.same3 h.1, mk8_same h.1⟩)

theorem n8_count (l : Launch) (G : mG) (hDD : mDD G) (o : Nat → Int32) (F : Nat → Nat → Int32) (tr : aM) (N : Nat) (x : Int32) (hI : RI tr N o F) (sz : Nat) : Met l yX8_count (wU yX8_count cX8_count 4 (some .int)) { frames := 0, cells := 0, slots := 0, locals := 0 } (mPc G o F sz [.ref (mh G), .int x]) (mQi G sz (fun _ u => ((RI tr N u.1 u.2 ∧ ∀ k, k < 7 → u.2 k = F k) ∧ W4 o F u) ∧ MK8 o F u)) 0 0 (mA G sz) :=
  mQ_mono (m_count l G hDD o F N x hI.1.1 hI.1.2.1 sz) (Nat.le_refl _) (Nat.le_refl _) (fun r u h => ⟨hI.same3 h.1, mk8_same h.1⟩)

theorem n8_value (l : Launch) (G : mG) (hDD : mDD G) (o : Nat → Int32) (F : Nat → Nat → Int32) (tr : aM) (N : Nat) (y : Int32) (hI : RI tr N o F) (sz : Nat) : Met l yX8_value (wU yX8_value cX8_value 2 (some .int)) { frames := 203, cells := 0, slots := 0, locals := 4472 } (mPc G o F sz [.ref (mh G), .int y]) (mQi G sz (fun _ u => ((RI tr N u.1 u.2 ∧ ∀ k, k < 7 → u.2 k = F k) ∧ W4 o F u) ∧ MK8 o F u)) 0 0 (mA G sz) :=
  mQ_mono (m_value l G hDD o F y hI.2.2.2.2 sz) (Nat.le_refl _) (Nat.le_refl _) (fun r u h => ⟨hI.tell3 h, mk8_tell h⟩)

theorem n8_sign (l : Launch) (G : mG) (hDD : mDD G) (o : Nat → Int32) (F : Nat → Nat → Int32) (tr : aM) (N : Nat) (y : Int32) (hI : RI tr N o F) (sz : Nat) : Met l yX8_sign (wU yX8_sign cX8_sign 2 (some .int)) { frames := 804, cells := 0, slots := 0, locals := 20147 } (mPc G o F sz [.ref (mh G), .int y]) (mQi G sz (fun _ u => ((RI tr N u.1 u.2 ∧ ∀ k, k < 7 → u.2 k = F k) ∧ W4 o F u) ∧ MK8 o F u)) 0 0 (mA G sz) := by
  rcases id hI.2.2.2.1 with ⟨-, h22⟩ | ⟨z, ix, hM, h22⟩
  · exact mQ_mono (m_sign0 l G hDD o F y h22 sz) (Nat.le_of_ble_eq_true rfl) (Nat.le_of_ble_eq_true rfl) (fun r u h => ⟨hI.same3 h, mk8_same h⟩)
  · exact mQ_mono (m_sign l G hDD o F z ix y hM h22 sz) (Nat.le_refl _) (Nat.le_refl _) (fun r u h => ⟨hI.tell3 h, mk8_tell h⟩)

theorem n8_variable (l : Launch) (G : mG) (hDD : mDD G) (o : Nat → Int32) (F : Nat → Nat → Int32) (tr : aM) (N : Nat) (x y : Int32) (hI : RI tr N o F) (sz : Nat) : Met l yX8_variable (wU yX8_variable cX8_variable 3 (some .int)) { frames := 2, cells := 0, slots := 0, locals := 43 } (mPc G o F sz [.ref (mh G), .int x, .int y]) (mQi G sz (fun _ u => ((RI tr N u.1 u.2 ∧ ∀ k, k < 7 → u.2 k = F k) ∧ W4 o F u) ∧ MK8 o F u)) 0 0 (mA G sz) := by
  rcases id hI.2.2.2.1 with ⟨h14, -⟩ | ⟨z, ix, hM, -⟩
  · exact mQ_mono (m_variable0 l G hDD o F x y (h14.trans nI_0.symm) sz) (Nat.le_of_ble_eq_true rfl) (Nat.le_of_ble_eq_true rfl) (fun r u h => ⟨hI.same3 h, mk8_same h⟩)
  · exact mQ_mono (m_variable l G hDD o F z ix x y hM sz) (Nat.le_refl _) (Nat.le_refl _) (fun r u h => ⟨hI.same3 h.1, mk8_same h.1⟩)

theorem n8_digest (l : Launch) (G : mG) (hDD : mDD G) (o : Nat → Int32) (F : Nat → Nat → Int32) (tr : aM) (N : Nat) (hI : RI tr N o F) (sz : Nat) : Met l yX8_digest (wU yX8_digest cX8_digest 5 (some .long)) { frames := 3, cells := 0, slots := 0, locals := 65 } (mPc G o F sz [.ref (mh G)]) (mQl G sz (fun _ u => ((RI tr N u.1 u.2 ∧ ∀ k, k < 7 → u.2 k = F k) ∧ W4 o F u) ∧ MK8 o F u)) 0 0 (mA G sz) := by
  rcases id hI.2.2.2.1 with ⟨h14, -⟩ | ⟨z, ix, hM, -⟩
  · exact mQl_mono (m_digest0 l G hDD o F N hI.1.1 hI.1.2.1 h14 sz) (Nat.le_of_ble_eq_true rfl) (Nat.le_of_ble_eq_true rfl) (fun r u h => ⟨hI.same3 h, mk8_same h⟩)
  · exact mQl_mono (m_digest l G hDD o F N z ix hI.1.1 hI.1.2.1 hM sz) (Nat.le_refl _) (Nat.le_refl _) (fun r u h => ⟨hI.same3 h, mk8_same h⟩)

set_option maxHeartbeats 4000000 in
set_option maxRecDepth 100000 in
/-- bound, none -/
theorem xt_bound0 (l : Launch) (G : mG) (hDD : mDD G) (o : Nat → Int32) (F : Nat → Nat → Int32) (x : Int32) (ab : Int32) (iv : Int32) (y : Int32) (h14 : o 14 = nI 0) (sz : Nat) : Met l yX8_bound (wU yX8_bound cX8_bound 8 (some .int)) { frames := 2, cells := 0, slots := 0, locals := 43 } (mPc G o F sz [.ref (mh G), .int x, .int ab, .int iv, .int y]) (mQi G sz (fun r u => u = (o, F) ∧ r = -1)) 0 0 (mA G sz) := by
  refine Met.ofW (cc := cX8_bound) (maxL := 8) (ret := (some .int)) (by decide) rfl ?_
  intro p e s m args below meth c s₁ B hml hv
  obtain ⟨rfl, hsz, hP, hK⟩ := hv
  have hx := B.exec
  have hb := B.bytes
  have hr := B.returns
  have htu : ∀ w ∈ WU, w.before _ s = true := fun w h => atoms_spec (ws := (wU yX8_bound cX8_bound 8 (some .int))) B.pre w (List.mem_cons_of_mem _ h)
  have hown : s.vm.findClass RX8 = some m.cls := findClass_of_methodNamed B.named
  have hlocks := B.notSynchronized
  subst hsz
  have hS : va_S (mA G s.heap.size) s.heap s.heap [] := va_S.rf
  have hl := lv_entry ([.ref (mh G), .int x, .int ab, .int iv, .int y]) (n := 8) (Nat.le_of_ble_eq_true rfl)
  rw [lg_entry_eq]
  generalize (lg_sl ([.ref (mh G), .int x, .int ab, .int iv, .int y]) ++ List.replicate (8 - (lg_sl ([.ref (mh G), .int x, .int ab, .int iv, .int y])).length) Slot.unset).toArray = ls at hl ⊢
  have hl : lv_has ls 8 [(0, .ref (mh G)), (1, .int x), (2, .int ab), (3, .int iv), (4, .int y)] := hl
  obtain ⟨H, hHe⟩ : ∃ H : Heap, H = s.heap := ⟨_, rfl⟩
  rw [← hHe] at hP
  have hS : va_S (mA G s.heap.size) s.heap H [] := by rw [hHe]; exact va_S.rf
  refine W.heq hHe ?_
  refine lv_aload_n hx hb dX8_bound_0 rfl (lv_at hl 0 rfl) ?_
  refine lv_iload_n hx hb dX8_bound_1 rfl (lv_at hl 1 rfl) ?_
  refine m_ci (m_runV (As := [.int x]) (rest := []) ⟨hx, hb, hml, hown, htu⟩ (m_isVariable l G hDD o F 0 x h14 ((by decide)) H.size) (cwV 1 htu gU_X8_isVariable rfl rfl rfl (by decide +kernel) ⟨Nat.le_of_ble_eq_true rfl, Nat.le_of_ble_eq_true rfl⟩) hP hK rfl hl.1 rfl (lv_room (Nat.le_of_ble_eq_true rfl)) dX8_bound_2) hS (fun r_1 o_2 F_3 H locs hw_4 hP hS => ?_)
  try dsimp only at hw_4
  obtain ⟨hu, hc⟩ := hw_4
  obtain ⟨h91, h92⟩ := Prod.mk.inj hu
  have h91 := h91.symm
  subst h91
  have h92 := h92.symm
  subst h92
  rcases hc with ⟨g1, q, g2, g3⟩ | ⟨g1, g2⟩
  · exact absurd g2 (Nat.not_lt_zero _)
  · skip
    subst g1
    refine lv_if_ne (tgt := 10) hx hb dX8_bound_5 (by decide) (fun c_5 => absurd (by decide) c_5) (fun c_5 => ?_)
    refine lv_iconst (v := (-1)) hx hb dX8_bound_8 (by decide) ?_
    exact m_iret (v := (-1)) hx hb hr hK hP hS ⟨rfl, rfl⟩ dX8_bound_9 hlocks

theorem m8_bound (l : Launch) (G : mG) (hDD : mDD G) (o : Nat → Int32) (F : Nat → Nat → Int32) (tr : aM) (N : Nat) (x ab iv y : Int32) (hI : RI tr N o F) (z : aS) (h9 : (Z0 z ∧ o 14 = 0 ∧ o 22 = 0) ∨ ∃ ix, MR z ix o F) (sz : Nat) : Met l yX8_bound (wU yX8_bound cX8_bound 8 (some .int)) { frames := 804, cells := 0, slots := 0, locals := 20147 } (mPc G o F sz [.ref (mh G), .int x, .int ab, .int iv, .int y]) (mQi G sz (fun r u => ((r = -1 ∧ ¬ ∃ q, q < nV z ∧ x = nI q) ∨ ∃ q wy, q < nV z ∧ x = nI q ∧ wy = (if ab = 0 then 0 else 1) ∧ ((r = -9 ∧ ¬ ∃ j, j < (row z wy (z.1 6 q)).length ∧ iv = nI j) ∨ ∃ j, j < (row z wy (z.1 6 q)).length ∧ iv = nI j ∧ r = sgat (TX9 z ((row z wy (z.1 6 q)).getD j 0) wy) y)) ∧ (((RI tr N u.1 u.2 ∧ ∀ k, k < 7 → u.2 k = F k) ∧ W4 o F u) ∧ MK8 o F u))) 0 0 (mA G sz) := by
  rcases h9 with ⟨h1, h14, -⟩ | ⟨ix, hM⟩
  · refine mQ_mono (xt_bound0 l G hDD o F x ab iv y (h14.trans nI_0.symm) sz) (Nat.le_of_ble_eq_true rfl) (Nat.le_of_ble_eq_true rfl) (fun r u h => ⟨Or.inl ⟨h.2, fun z9 => ?_⟩, hI.same3 h.1, mk8_same h.1⟩)
    obtain ⟨q, hq, -⟩ := z9
    rw [h1.2.1] at hq
    exact absurd hq (Nat.not_lt_zero _)
  · exact mQ_mono (xt_bound l G hDD o F z ix x ab iv y hM sz) (Nat.le_refl _) (Nat.le_refl _) (fun r u h => ⟨h.1, hI.tell3 h.2, mk8_tell h.2⟩)

theorem bound_eq {S : cS} {z : aS} {x ab iv y r1 r2 : Int32} (hz : KT S z) (hC : CL S) (h1 : ((r1 = -1 ∧ ¬ ∃ q, q < nV z ∧ x = nI q) ∨ ∃ q wy, q < nV z ∧ x = nI q ∧ wy = (if ab = 0 then 0 else 1) ∧ ((r1 = -9 ∧ ¬ ∃ j, j < (row z wy (z.1 6 q)).length ∧ iv = nI j) ∨ ∃ j, j < (row z wy (z.1 6 q)).length ∧ iv = nI j ∧ r1 = sgat (TX9 z ((row z wy (z.1 6 q)).getD j 0) wy) y))) (h2 : ((r2 = -1 ∧ ¬ ∃ q, q < nV z ∧ x = nI q) ∨ ∃ q wy, q < nV z ∧ x = nI q ∧ wy = (if ab = 0 then 0 else 1) ∧ ((r2 = -9 ∧ ¬ ∃ j, j < (row z wy (z.1 6 q)).length ∧ iv = nI j) ∨ ∃ j, j < (row z wy (z.1 6 q)).length ∧ iv = nI j ∧ r2 = sgat (TX9 z ((row z wy (z.1 6 q)).getD j 0) wy) y))) : r1 = r2 := by
  have hv := hz.1.2.2.2.2.2.2.2.2.1
  rcases h1 with ⟨a1, a2⟩ | ⟨q, wy, a1, a2, a3, a4⟩
  · rcases h2 with ⟨b1, b2⟩ | ⟨q, wy, b1, b2, b3, b4⟩
    · exact a1.trans b1.symm
    · exact absurd ⟨q, b1, b2⟩ a2
  · rcases h2 with ⟨b1, b2⟩ | ⟨q', wy', b1, b2, b3, b4⟩
    · exact absurd ⟨q, a1, a2⟩ b2
    · obtain rfl : q = q' := (nI_eq (by omega) (by omega)).mp (a2.symm.trans b2)
      obtain rfl : wy = wy' := a3.trans b3.symm
      have hw : wy < 2 := by
        rw [a3]
        by_cases e : ab = 0
        · rw [if_pos e]
          decide
        · rw [if_neg e]
          decide
      obtain ⟨-, k1, k2, -⟩ := hz.2.2.2.2.1.2 q a1
      have hl := hz.rlen hC k1 k2 hw
      rcases a4 with ⟨c1, c2⟩ | ⟨j, c1, c2, c3⟩
      · rcases b4 with ⟨d1, d2⟩ | ⟨j, d1, d2, d3⟩
        · exact c1.trans d1.symm
        · exact absurd ⟨j, d1, d2⟩ c2
      · rcases b4 with ⟨d1, d2⟩ | ⟨j', d1, d2, d3⟩
        · exact absurd ⟨j, c1, c2⟩ d2
        · obtain rfl : j = j' := (nI_eq (by omega) (by omega)).mp (c2.symm.trans d2)
          exact c3.trans d3.symm
