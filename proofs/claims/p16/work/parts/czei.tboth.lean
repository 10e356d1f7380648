/-! ===== the latest type() in both programs: what the law's methods leave ===== -/
def TY9 (S : cS) (o : Nat → Int32) (F : Nat → Nat → Int32) (i : Nat) : Prop := ∃ z tm, KL S z tm ∧ tm ≤ 3000 * i ∧ ((Z0 z ∧ sto z = 0 ∧ o 14 = 0 ∧ o 24 = -9) ∨ ∃ ix, MR z ix o F)
def LRt (S : cS) (tr : aM) (N : Nat) (o : Nat → Int32) (F : Nat → Nat → Int32) (i : Nat) : Prop := LR S tr N o F ∧ TY9 S o F i
theorem TY9.up {S : cS} {o : Nat → Int32} {F : Nat → Nat → Int32} {i : Nat} (h : TY9 S o F i) : TY9 S o F (i + 1) := by
  obtain ⟨z, tm, h1, h2, h3⟩ := h
  exact ⟨z, tm, h1, by omega, h3⟩
theorem TY9.keep {rs is : List Nat} {S u : cS} {o o' : Nat → Int32} {F F' : Nat → Nat → Int32} {i : Nat} (h : TY9 S o F i) (a : AW rs is S u) (hr : ∀ r ∈ [6, 7, 8, 9, 10, 11, 14, 23, 24, 25, 26, 35], r ∉ rs) (hi : 8 ∉ is ∧ 13 ∉ is) (m : MK o F (o', F')) : TY9 u o' F' (i + 1) := by
  obtain ⟨z, tm, h1, h2, h3⟩ := h
  obtain ⟨m1, m2, m3⟩ := m
  refine ⟨z, tm, h1.aw a hr hi, by omega, ?_⟩
  rcases h3 with ⟨h4, h5, h6, h7⟩ | ⟨ix, h4⟩
  · exact Or.inl ⟨h4, h5, m2.trans h6, m3.trans h7⟩
  · exact Or.inr ⟨ix, m1 z ix h4⟩
theorem LR.to {S : cS} {tr : aM} {N : Nat} {o : Nat → Int32} {F : Nat → Nat → Int32} (hR : LR S tr N o F) : TO S tr N := by
  obtain ⟨hCI, hI, hE, hZ, hW9⟩ := hR
  intro n hn
  obtain ⟨t1, t2, t3, t4, t5, t6, t7, t8, t9⟩ := hI.1.2.2 n hn
  refine ⟨fun h => (hE.1 n hn).2.2.1.trans (hI.2.1 n hn h), fun h => ⟨(hE.1 n hn).2.2.1.trans (t6 h).1, (t6 h).2⟩, fun i hi => (t7 i hi).2.2, t9⟩
theorem LR.rk {S : cS} {tr : aM} {N : Nat} {o : Nat → Int32} {F : Nat → Nat → Int32} (hR : LR S tr N o F) : ∃ rk, RKs tr rk N := by
  obtain ⟨hCI, hI, hE, hZ, hW9⟩ := hR
  obtain ⟨rk, hrk, -⟩ := id hI.2.2.1
  refine ⟨rk, fun n hn => ?_⟩
  obtain ⟨t1, t2, t3, t4, t5, t6, t7, t8, t9⟩ := hI.1.2.2 n hn
  refine ⟨t2, fun i hi => ?_⟩
  obtain ⟨p1, p2, p3⟩ := t7 i hi
  have h := hrk (tr (10 + i) n) (by omega)
  rw [show tr 3 (tr (10 + i) n) - 1 = n by omega] at h
  exact ⟨h, p2⟩
theorem LR.cn {S : cS} {tr : aM} {N : Nat} {o : Nat → Int32} {F : Nat → Nat → Int32} {tm i : Nat} (hR : LR S tr N o F) (htm : tm ≤ 3000 * i) (hi : i ≤ 512) : ∀ n, n < N → tm + 1501 + cntT tr 60 n ≤ 2 ^ 29 := fun n hn => by
  have := cnt_all (k := 60) hR.2.1.1 hR.2.1.2.2.1 hn
  omega
theorem type_both {S S2 : cS} {tr : aM} {N tm i : Nat} {o o2 : Nat → Int32} {F F2 : Nat → Nat → Int32} {x r1 r2 : Int32} (hR : LRt S tr N o F i) (htm : tm ≤ 3000 * i) (ha : AW [6, 7, 8, 9, 16, 14, 10, 11, 12, 13, 17, 18, 23, 24, 25, 26, 35, 19, 20, 21, 22] [8, 9, 10, 11, 12, 13, 14, 201, 300] S S2)
    (hc : (r1 = -1 ∧ S2 = S ∧ ¬ ∃ j, j < N ∧ x = nI j) ∨ ∃ n9 tm', n9 < N ∧ x = nI n9 ∧ CI S2 N ∧ KL S2 (ty tr n9 60 (zS n9) n9 0).1 tm' ∧ tm' ≤ tm + 1500 + cntT tr 60 n9 ∧ r1 = tans (ty tr n9 60 (zS n9) n9 0) ∧ S2.1 14 = sc (sto (ty tr n9 60 (zS n9) n9 0).1))
    (hm : (r2 = -1 ∧ (o2, F2) = (o, F) ∧ ¬ ∃ j, j < N ∧ x = nI j) ∨ ∃ q, q < N ∧ x = nI q ∧ (∃ ix, MR (ty tr q 60 (zS q) q 0).1 ix o2 F2) ∧ o2 22 = (if sto (ty tr q 60 (zS q) q 0).1 = 0 then 1 else 0) ∧ (sto (ty tr q 60 (zS q) q 0).1 = 0 → o2 23 = nI (ty tr q 60 (zS q) q 0).2 ∧ (ty tr q 60 (zS q) q 0).2 < nT (ty tr q 60 (zS q) q 0).1) ∧ r2 = (if sto (ty tr q 60 (zS q) q 0).1 = 0 then nI (nV (ty tr q 60 (zS q) q 0).1) else sc (sto (ty tr q 60 (zS q) q 0).1)) ∧ (∀ k, k < 7 ∨ 45 < k → o2 k = o k ∧ F2 k = F k)) : r1 = r2 ∧ LRt S2 tr N o2 F2 (i + 1) := by
  obtain ⟨hR1, hT⟩ := hR
  have hN := hR1.2.1.1.2.1
  rcases hc with ⟨c1, c2, c3⟩ | ⟨q, tm', c1, c2, c3, c4, c5, c6, c7⟩
  · rcases hm with ⟨m1, m2, m3⟩ | ⟨q, m1, m2, -⟩
    · obtain ⟨rfl, rfl⟩ := Prod.mk.inj m2
      subst c2
      exact ⟨c1.trans m1.symm, hR1, hT.up⟩
    · exact absurd ⟨q, m1, m2⟩ c3
  · rcases hm with ⟨m1, m2, m3⟩ | ⟨q', m1, m2, m3, m4, m5, m6, m7⟩
    · exact absurd ⟨q, c1, c2⟩ m3
    · obtain rfl : q = q' := (nI_eq (by omega) (by omega)).mp (c2.symm.trans m2)
      have hcn := cnt_all (k := 60) hR1.2.1.1 hR1.2.1.2.2.1 c1
      obtain ⟨⟨hI1, hI2⟩, hW⟩ := RI.type3 (u := (o2, F2)) hR1.2.1 m3 m4 m5 m7
      exact ⟨c6.trans m6.symm, ⟨c3, hI1, hR1.2.2.1.aw ha (by decide) hI2, hR1.2.2.2.1, hR1.2.2.2.2.kq ha (by decide) hW hI2⟩, _, tm', c4, by omega, Or.inr m3⟩
theorem work_mk {o o2 : Nat → Int32} {F F2 : Nat → Nat → Int32} {A P : Prop} {B1 B2 B3 B4 B5 B6 : Nat → Nat → Prop} (h : (A ∧ (o2, F2) = (o, F) ∧ P) ∨ ∃ q w9, B1 q w9 ∧ B2 q w9 ∧ B3 q w9 ∧ B4 q w9 ∧ B5 q w9 ∧ Kq LWa o F (o2, F2) ∧ B6 q w9) : MK o F (o2, F2) := by
  rcases h with ⟨-, h, -⟩ | ⟨q, w9, -, -, -, -, -, h, -⟩
  · exact mk_same h
  · exact mk_of h (by decide)
theorem i_512 {i L : Nat} (h : 6 * i + 6 ≤ L) (hL : L ≤ 3072) : i ≤ 512 := by omega
