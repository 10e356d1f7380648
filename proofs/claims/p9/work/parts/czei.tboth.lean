/-! ===== the latest type() in both programs: what the law's methods leave ===== -/
def TY9 (S : cS) (o : Nat → Int32) (F : Nat → Nat → Int32) (i : Nat) : Prop := ∃ z tm, KL S z tm ∧ tm ≤ 3000 * i ∧ ((Z0 z ∧ sto z = 0 ∧ o 14 = 0 ∧ o 24 = -9) ∨ ∃ ix, MR z ix o F)
def LRt (S : cS) (tr : aM) (N : Nat) (o : Nat → Int32) (F : Nat → Nat → Int32) (i : Nat) : Prop := LR S tr N o F ∧ TY9 S o F i
theorem TY9.up {S : cS} {o : Nat → Int32} {F : Nat → Nat → Int32} {i : Nat} (h : TY9 S o F i) : TY9 S o F (i + 1) := by
  obtain ⟨z, tm, h1, h2, h3⟩ := h
  exact ⟨z, tm, h1, by omega, h3⟩
theorem TY9.keep {rs is : List Nat} {S u : cS} {o o' : Nat → Int32} {F F' : Nat → Nat → Int32} {i : Nat} (h : TY9 S o F i) (a : AW rs is S u) (hr : ∀ r ∈ [6, 7, 8, 9, 10, 11, 14, 23, 24, 25, 26, 35], r ∉ rs) (hi : 8 ∉ is ∧ 13 ∉ is) (m : MK o F (o', F')) : TY9 u o' F' (i + 1) := by
  obtain ⟨z, tm, h1, h2, h3⟩ := h
  obtain ⟨m1, m2, m3⟩ := m
  refine ⟨z, tm, h1.aw a hr hi, by omega, ?_⟩
  rcases h3 with ⟨h4, h5, h6, h7⟩ | ⟨ix, h4⟩
  · exact Or.inl ⟨h4, h5, m2.trans h6, m3.trans h7⟩
  · exact Or.inr ⟨ix, m1 z ix h4⟩
theorem LR.to {S : cS} {tr : aM} {N : Nat} {o : Nat → Int32} {F : Nat → Nat → Int32} (hR : LR S tr N o F) : TO S tr N := by
  obtain ⟨hCI, hI, hE, hZ, hW9⟩ := hR
  intro n hn
  obtain ⟨t1, t2, t3, t4, t5, t6, t7, t8, t9⟩ := hI.1.2.2 n hn
  refine ⟨fun h => (hE.1 n hn).2.2.1.trans (hI.2.1 n hn h), fun h => ⟨(hE.1 n hn).2.2.1.trans (t6 h).1, (t6 h).2⟩, fun i hi => (t7 i hi).2.2, t9⟩
theorem LR.rk {S : cS} {tr : aM} {N : Nat} {o : Nat → Int32} {F : Nat → Nat → Int32} (hR : LR S tr N o F) : ∃ rk, RKs tr rk N := by
  obtain ⟨hCI, hI, hE, hZ, hW9⟩ := hR
  obtain ⟨rk, hrk, -⟩ := id hI.2.2.1
  refine ⟨rk, fun n hn => ?_⟩
  obtain ⟨t1, t2, t3, t4, t5, t6, t7, t8, t9⟩ := hI.1.2.2 n hn
  refine ⟨t2, fun i hi => ?_⟩
  obtain ⟨p1, p2, p3⟩ := t7 i hi
  have h := hrk (tr (10 + i) n) (by omega)
  rw [show tr 3 (tr (10 + i) n) - 1 = n by omega] at h
  exact ⟨h, p2⟩
theorem LR.cn {S : cS} {tr : aM} {N : Nat} {o : Nat → Int32} {F : Nat → Nat → Int32} {tm i : Nat} (hR : LR S tr N o F) (htm : tm ≤ 3000 * i) (hi : i ≤ 512) : ∀ n, n < N → tm + 1501 + cntT tr 60 n ≤ 2 ^ 29 := fun n hn => by
  have := cnt_all (k := 60) hR.2.1.1 hR.2.1.2.2.1 hn
  omega
theorem type_both {S S2 : cS} {tr : aM} {N tm i : Nat} {o o2 : Nat → Int32} {F F2 : Nat → Nat → Int32} {x r1 r2 : Int32} (hR : LRt S tr N o F i) (htm : tm ≤ 3000 * i) (ha : AW [6, 7, 8, 9, 16, 14, 10, 11, 12, 13, 17, 18, 23, 24, 25, 26, 35, 19, 20, 21, 22] [8, 9, 10, 11, 12, 13, 14, 201, 300] S S2)
    (hc : (r1 = -1 ∧ S2 = S ∧ ¬ ∃ j, j < N ∧ x = nI j) ∨ ∃ n9 tm', n9 < N ∧ x = nI n9 ∧ CI S2 N ∧ KL S2 (ty tr n9 60 (zS n9) n9 0).1 tm' ∧ tm' ≤ tm + 1500 + cntT tr 60 n9 ∧ r1 = tans (ty tr n9 60 (zS n9) n9 0) ∧ S2.1 14 = sc (sto (ty tr n9 60 (zS n9) n9 0).1))
    (hm : (r2 = -1 ∧ (o2, F2) = (o, F) ∧ ¬ ∃ j, j < N ∧ x = nI j) ∨ ∃ q, q < N ∧ x = nI q ∧ (∃ ix, MR (ty tr q 60 (zS q) q 0).1 ix o2 F2) ∧ o2 22 = (if sto (ty tr q 60 (zS q) q 0).1 = 0 then 1 else 0) ∧ (sto (ty tr q 60 (zS q) q 0).1 = 0 → o2 23 = nI (ty tr q 60 (zS q) q 0).2 ∧ (ty tr q 60 (zS q) q 0).2 < nT (ty tr q 60 (zS q) q 0).1) ∧ r2 = (if sto (ty tr q 60 (zS q) q 0).1 = 0 then nI (nV (ty tr q 60 (zS q) q 0).1) else sc (sto (ty tr q 60 (zS q) q 0).1)) ∧ (∀ k, k < 7 ∨ 45 < k → o2 k = o k ∧ F2 k = F k)) : r1 = r2 ∧ LRt S2 tr N o2 F2 (i + 1) := by
  obtain ⟨hR1, hT⟩ := hR
  have hN := hR1.2.1.1.2.1
  rcases hc with ⟨c1, c2, c3⟩ | ⟨q, tm', c1, c2, c3, c4, c5, c6, c7⟩
  · rcases hm with ⟨m1, m2, m3⟩ | ⟨q, m1, m2, -⟩
    · obtain ⟨rfl, rfl⟩ := Prod.mk.inj m2
      subst c2
      exact ⟨c1.trans m1.symm, hR1, hT.up⟩
    · exact absurd ⟨q, m1, m2⟩ c3
  · rcases hm with ⟨m1, m2, m3⟩ | ⟨q', m1, m2, m3, m4, m5, m6, m7⟩
    · exact absurd ⟨q, c1, c2⟩ m3
    · obtain rfl : q = q' := (nI_eq (by omega) (by omega)).mp (c2.symm.trans m2)
      have hcn := cnt_all (k := 60) hR1.2.1.1 hR1.2.1.2.2.1 c1
      obtain ⟨⟨hI1, hI2⟩, hW⟩ := RI.type3 (u := (o2, F2)) hR1.2.1 m3 m4 m5 m7
      exact ⟨c6.trans m6.symm, ⟨c3, hI1, hR1.2.2.1.aw ha (by decide) hI2, hR1.2.2.2.1, hR1.2.2.2.2.kq ha (by decide) hW hI2⟩, _, tm', c4, by omega, Or.inr m3⟩
theorem node_both9 {S S2 : cS} {tr : aM} {N i : Nat} {o o2 : Nat → Int32} {F F2 : Nat → Nat → Int32} {kd vv na nb nc r1 r2 : Int32} (hR : LRt S tr N o F i) (hw3 : W3 o o2) (hk1 : K1 o o2) (ha : AW [0, 1, 2, 3, 4, 5] [] S S2) (hc : (r1 = -1 ∧ S2 = S ∧ ¬ NOK S N kd vv na nb nc) ∨ (NOK S N kd vv na nb nc ∧ ¬ t_full N = 0 ∧ r1 = -2 ∧ S2 = S) ∨ (NOK S N kd vv na nb nc ∧ N < 120 ∧ r1 = nI N ∧ ANP S S2 N kd vv na nb nc)) (hm : NPost tr N o F kd vv na nb nc r2 (o2, F2)) : r1 = r2 ∧ ∃ tr' N', LRt S2 tr' N' o2 F2 (i + 1) := by
  obtain ⟨⟨hCI, hI, hE, hZ, hW9⟩, hT⟩ := hR
  have hN := hI.1.2.1
  have hok : NOK S N kd vv na nb nc ↔ MOK (F 6) N kd vv na nb nc := mok_cg (f := kF S 2) hN (fun j hj => (hE.1 j hj).2.2.1)
  rcases hc with ⟨c1, c2, c3⟩ | ⟨c1, c2, c3, c4⟩ | ⟨c1, c2, c3, c4⟩
  · rcases hm with ⟨m1, m2, m3⟩ | ⟨m1, m2, m3, m4⟩ | ⟨m1, m2, m3, m4⟩
    · obtain ⟨rfl, rfl⟩ := Prod.mk.inj m2
      subst c2
      exact ⟨c1.trans m1.symm, tr, N, ⟨hCI, hI, hE, hZ, hW9⟩, hT.up⟩
    · exact absurd (hok.mpr m1) c3
    · exact absurd (hok.mpr m1) c3
  · rcases hm with ⟨m1, m2, m3⟩ | ⟨m1, m2, m3, m4⟩ | ⟨m1, m2, m3, m4⟩
    · exact absurd (hok.mp c1) m3
    · obtain ⟨rfl, rfl⟩ := Prod.mk.inj m4
      subst c4
      exact ⟨c3.trans m3.symm, tr, N, ⟨hCI, hI, hE, hZ, hW9⟩, hT.up⟩
    · exact absurd ((full_iff hN).mpr m2) c2
  · rcases hm with ⟨m1, m2, m3⟩ | ⟨m1, m2, m3, m4⟩ | ⟨m1, m2, m3, k, v, qs, n1, n2, n3, n4, n5⟩
    · exact absurd (hok.mp c1) m3
    · omega
    · obtain ⟨e1, e2⟩ := hE.node m2 c4 n2 n3 n4 n5
      exact ⟨c3.trans m3.symm, _, _, ⟨CI.of_aw hCI ha (TJ.of e2 n1 e1) (by
        obtain ⟨-, ⟨T, V, X, Y, Z, hY⟩, -⟩ := hCI
        exact ⟨T, V, X, Y, Z, hY.aw ha (by decide)⟩) (by decide) (by decide), n1, e1, hZ.node n1 n2 n3, hW9.keep ha (by decide) ⟨hw3, n2.2.2.2.2.2.2 52 (by decide), n2.2.2.2.2.2.2 53 (by decide), n2.2.2.2.2.2.2 54 (by decide), n2.2.2.2.2.2.2 55 (by decide)⟩ (fun n hn i hi => (n2.2.2.2.2.1 (6 * n + i) (by have := (hI.1.2.2 n hn).2.2.2.2.1; omega)).2) (Nat.le_succ _) (fun q hq => by rw [trN_o (by omega) (by decide)]; exact Nat.le_refl _)⟩, hT.keep ha (by decide) (by decide) (mk_node (u := (o2, F2)) hk1 n2.2.2.2.2.2.2)⟩
theorem field_both9 {S S2 : cS} {tr : aM} {N i : Nat} {o o2 : Nat → Int32} {F F2 : Nat → Nat → Int32} {x y w r1 r2 : Int32} (hR : LRt S tr N o F i) (hw3 : W3 o o2) (ha : AW [2, 3, 4, 5, 6, 7, 8, 9, 16, 14, 10, 11, 12, 13, 17, 18] [12, 13, 14] S S2) (hc : (r1 = -1 ∧ S2 = S ∧ ¬ FOK S N x y w) ∨ (FOK S N x y w ∧ (¬ rget (kF S 0) N x = 5 ∨ ¬ t_hasL (kF S 3) (kF S 5) N x y = 0) ∧ r1 = -4 ∧ S2 = S) ∨ (FOK S N x y w ∧ (rget (kF S 0) N x = 5 ∧ t_hasL (kF S 3) (kF S 5) N x y = 0) ∧ ¬ t_pc (kF S 3) N x < 6 ∧ r1 = -2 ∧ S2 = S) ∨ (FOK S N x y w ∧ (rget (kF S 0) N x = 5 ∧ t_hasL (kF S 3) (kF S 5) N x y = 0) ∧ t_pc (kF S 3) N x < 6 ∧ r1 = t_pc (kF S2 3) N x ∧ FLD S S2 N x y w ∧ S0 S2 ∧ S2.1 13 = -9))
    (hm : ((o2, F2) = (o, F) ∧ r2 = -1 ∧ ¬ ∃ q y9 p9, q < N ∧ x = nI q ∧ y9 < 26 ∧ y = nI y9 ∧ p9 < N ∧ w = nI p9 ∧ F 6 p9 = -9 ∧ ¬ Wi tr q p9) ∨ ∃ q y9 p9, (q < N ∧ x = nI q ∧ y9 < 26 ∧ y = nI y9 ∧ p9 < N ∧ w = nI p9 ∧ F 6 p9 = -9 ∧ ¬ Wi tr q p9) ∧ ((tr 0 q = 5 ∧ tr 2 q = 6 ∧ (∀ i, i < tr 2 q → F 5 (6 * q + i) ≠ nI y9) ∧ r2 = -2 ∧ (o2, F2) = (o, F)) ∨ ((tr 0 q ≠ 5 ∨ ∃ i, i < tr 2 q ∧ F 5 (6 * q + i) = nI y9) ∧ r2 = -4 ∧ (o2, F2) = (o, F)) ∨ (tr 0 q = 5 ∧ tr 2 q < 6 ∧ (∀ i, i < tr 2 q → F 5 (6 * q + i) ≠ nI y9) ∧ r2 = nI (tr 2 q + 1) ∧ (o2, F2) = (upd (upd (upd (upd (upd (upd (upd (upd (upd (upd (upd (upd o 7 2) 14 0) 16 0) 22 0) 24 (-9)) 26 0) 27 0) 28 0) 31 0) 32 0) 33 0) 34 0, fput (fput (fput (fput F 4 (6 * q + tr 2 q) (nI p9)) 5 (6 * q + tr 2 q) (nI y9)) 6 p9 (nI q)) 3 q (nI (tr 2 q + 1)))))) : r1 = r2 ∧ ∃ tr', LRt S2 tr' N o2 F2 (i + 1) := by
  obtain ⟨⟨hCI, hI, hE, hZ, hW9⟩, hT⟩ := hR
  have hN := hI.1.2.1
  have hok := fok_iff (x := x) (y := y) (w := w) hI hE
  unfold FQ at hok
  rcases hm with ⟨m1, m2, m3⟩ | ⟨q, y9, p9, mq, hm⟩
  · obtain ⟨rfl, rfl⟩ := Prod.mk.inj m1
    rcases hc with ⟨c1, c2, c3⟩ | ⟨c1, -⟩ | ⟨c1, -⟩ | ⟨c1, -⟩
    · subst c2
      exact ⟨c1.trans m2.symm, tr, ⟨hCI, hI, hE, hZ, hW9⟩, hT.up⟩
    · exact absurd (hok.mp c1) m3
    · exact absurd (hok.mp c1) m3
    · exact absurd (hok.mp c1) m3
  · have h1 := hok.mpr ⟨q, y9, p9, mq⟩
    obtain ⟨hq, rfl, hy, rfl, hp, rfl, h9, hw⟩ := mq
    have hk := kind_iff hI hE hq
    have hl := lab_iff (y9 := y9) hI hE hq
    have hn := cnt_at hI hE hq
    have t5 := (hI.1.2.2 q hq).2.2.2.2.1
    rcases hc with ⟨-, -, c3⟩ | ⟨-, c2, c3, c4⟩ | ⟨-, ⟨c2, c3⟩, c4, c5, c6⟩ | ⟨-, ⟨c2, c3⟩, c4, c5, c6⟩
    · exact absurd h1 c3
    · rcases hm with ⟨m1, m2, m3, m4, m5⟩ | ⟨m1, m2, m3⟩ | ⟨m1, m2, m3, m4, m5⟩
      · exact absurd (c2.resolve_left (not_not_intro (hk.mpr m1))) (not_not_intro (hl.mpr m3))
      · obtain ⟨rfl, rfl⟩ := Prod.mk.inj m3
        subst c4
        exact ⟨c3.trans m2.symm, tr, ⟨hCI, hI, hE, hZ, hW9⟩, hT.up⟩
      · exact absurd (c2.resolve_left (not_not_intro (hk.mpr m1))) (not_not_intro (hl.mpr m3))
    · rw [hn] at c4
      have c4' : ¬ tr 2 q < 6 := fun z => c4 (lt6 z)
      rcases hm with ⟨m1, m2, m3, m4, m5⟩ | ⟨m1, m2, m3⟩ | ⟨m1, m2, m3, m4, m5⟩
      · obtain ⟨rfl, rfl⟩ := Prod.mk.inj m5
        subst c6
        exact ⟨c5.trans m4.symm, tr, ⟨hCI, hI, hE, hZ, hW9⟩, hT.up⟩
      · rcases m1 with m1 | ⟨i, m1, m1'⟩
        · exact absurd (hk.mp c2) m1
        · exact absurd m1' (hl.mp c3 i m1)
      · exact absurd m2 c4'
    · rw [hn] at c4
      have c4' : tr 2 q < 6 := (nI_ltI (a := tr 2 q) (b := 6) (by omega) (by omega)).mp c4
      rcases hm with ⟨m1, m2, m3, m4, m5⟩ | ⟨m1, m2, m3⟩ | ⟨m1, m2, m3, m4, m5⟩
      · omega
      · rcases m1 with m1 | ⟨i, m1, m1'⟩
        · exact absurd (hk.mp c2) m1
        · exact absurd m1' (hl.mp c3 i m1)
      · have hI' := hI.field hq hp hy h9 hw m1 m2 m5
        have hF : FldF F F2 q (tr 2 q) p9 y9 := (Prod.mk.inj m5).2
        have hE' := TEq.field hI hE hq hp m2 c6.1 hF
        have hTI : TI S2 N := c6.1.1
        have hY : TY S2 2 0 0 0 0 0 := c6.1.2.2.2.2.2.2.2
        have hN0 : TY9 S2 o2 F2 (i + 1) := by
          obtain ⟨z, tm, h1, h2, h3⟩ := hT
          obtain ⟨kt, -⟩ := kt_start hY c6.2.1 (z0_zS 0)
          have d14 : o2 14 = 0 := by rw [(Prod.mk.inj m5).1]; rfl
          have d24 : o2 24 = -9 := by rw [(Prod.mk.inj m5).1]; rfl
          exact ⟨zS 0, tm, ⟨kt, h1.2.1.aw ha (by decide), (ha.1 8 (by decide)).trans h1.2.2.1, ⟨(ha.2.1 23 (lt35 (by decide)) (by decide)).2.trans h1.2.2.2.1.1, (ha.2.1 24 (lt35 (by decide)) (by decide)).2.trans h1.2.2.2.1.2⟩, c6.2.2.trans (wc_0 (z := zS 0) rfl).symm⟩, by omega, Or.inl ⟨z0_zS 0, rfl, d14, d24⟩⟩
        refine ⟨?_, _, ⟨CI.of_aw hCI ha (TJ.of hTI hI' hE') ⟨_, _, _, _, _, hY⟩ (by decide) (by decide), hI', hE', hZ.field m1, hW9.keep ha (by decide) ⟨hw3, by rw [hF]; rfl, by rw [hF]; rfl, by rw [hF]; rfl, by rw [hF]; rfl⟩ (fun n hn i hi => by
          have f5 : F2 5 = upd (F 5) (6 * q + tr 2 q) (nI y9) := by rw [hF]; rfl
          have h6 := (hI.1.2.2 n hn).2.2.2.2.1
          rw [f5, upd_n (by
            by_cases e : n = q
            · subst e; omega
            · omega)]) (Nat.le_refl _) (fun n hn => by
          rw [trF_2]
          by_cases e : n = q
          · rw [if_pos e, e]; omega
          · rw [if_neg e]; exact Nat.le_refl _)⟩, hN0⟩
        rw [c5, m4, cnt_at hI' hE' hq, trF_2, if_pos rfl]
theorem work_mk {o o2 : Nat → Int32} {F F2 : Nat → Nat → Int32} {A P : Prop} {B1 B2 B3 B4 B5 B6 : Nat → Nat → Prop} (h : (A ∧ (o2, F2) = (o, F) ∧ P) ∨ ∃ q w9, B1 q w9 ∧ B2 q w9 ∧ B3 q w9 ∧ B4 q w9 ∧ B5 q w9 ∧ Kq LWa o F (o2, F2) ∧ B6 q w9) : MK o F (o2, F2) := by
  rcases h with ⟨-, h, -⟩ | ⟨q, w9, -, -, -, -, -, h, -⟩
  · exact mk_same h
  · exact mk_of h (by decide)
theorem i_512 {i L : Nat} (h : 6 * i + 6 ≤ L) (hL : L ≤ 3072) : i ≤ 512 := by omega
theorem var_eq {z : aS} {x y r1 r2 : Int32} (hz : nV z ≤ 150) (h1 : (r1 = -1 ∧ ¬ ((∃ j, j < nV z ∧ x = nI j) ∧ ∃ w, w < 3 ∧ y = nI w)) ∨ ∃ j w, j < nV z ∧ x = nI j ∧ w < 3 ∧ y = nI w ∧ r1 = if w = 0 then nI (lev z (z.1 6 j)) else nI (row z (w - 1) (z.1 6 j)).length) (h2 : (r2 = -1 ∧ ¬ ((∃ j, j < nV z ∧ x = nI j) ∧ ∃ w, w < 3 ∧ y = nI w)) ∨ ∃ j w, j < nV z ∧ x = nI j ∧ w < 3 ∧ y = nI w ∧ r2 = if w = 0 then nI (lev z (z.1 6 j)) else nI (row z (w - 1) (z.1 6 j)).length) : r1 = r2 := by
  rcases h1 with ⟨a1, a2⟩ | ⟨j, w, a1, a2, a3, a4, a5⟩
  · rcases h2 with ⟨b1, b2⟩ | ⟨j, w, b1, b2, b3, b4, b5⟩
    · exact a1.trans b1.symm
    · exact absurd ⟨⟨j, b1, b2⟩, w, b3, b4⟩ a2
  · rcases h2 with ⟨b1, b2⟩ | ⟨j', w', b1, b2, b3, b4, b5⟩
    · exact absurd ⟨⟨j, a1, a2⟩, w, a3, a4⟩ b2
    · obtain rfl : j = j' := (nI_eq (by omega) (by omega)).mp (a2.symm.trans b2)
      obtain rfl : w = w' := (nI_eq (by omega) (by omega)).mp (a4.symm.trans b4)
      exact a5.trans b5.symm
