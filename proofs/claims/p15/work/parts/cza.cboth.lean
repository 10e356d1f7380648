/-! ===== a node, a field in both programs ===== -/
theorem CI.of_aw {rs is : List Nat} {S u : cS} {N N' : Nat} (h : CI S N) (a : AW rs is S u) (hT : TJ u N') (hY : ∃ T V X Y Z, TY u T V V X Y Z) (hr : ∀ r ∈ [15, 19, 20, 21], r ∉ rs) (hi : ∀ k ∈ [200, 201, 202], k ∉ is) : CI u N' := by
  obtain ⟨-, -, ⟨h1, h2, h3, h4⟩, h5, h6, h7⟩ := h
  have e : ∀ r, r ∈ [15, 19, 20, 21] → kK u r = kK S r := fun r hm => (a.2.1 r (by simp only [List.mem_cons, List.not_mem_nil, or_false] at hm; omega) (by
    rw [Nat.min_eq_left (by simp only [List.mem_cons, List.not_mem_nil, or_false] at hm; omega)]
    exact hr r hm)).2
  refine ⟨hT, hY, ⟨(e 15 (by decide)).trans h1, (e 19 (by decide)).trans h2, (e 20 (by decide)).trans h3, (e 21 (by decide)).trans h4⟩, ?_, ?_, ?_⟩
  · rw [a.1 200 (hi 200 (by decide))]
    exact h5
  · rw [a.1 201 (hi 201 (by decide))]
    exact h6
  · rw [a.1 202 (hi 202 (by decide))]
    exact h7
theorem TJ.of {S : cS} {tr : aM} {N : Nat} {o : Nat → Int32} {F : Nat → Nat → Int32} (hT : TI S N) (hI : RI tr N o F) (hE : TEq S F N) : TJ S N := by
  refine ⟨hT, fun n hn => ?_⟩
  obtain ⟨t1, t2, t3, t4, t5, -⟩ := hI.1.2.2 n hn
  rw [(hE.1 n hn).2.2.2, t4]
  exact (nI_leI (a := tr 2 n) (b := 6) (by omega) (by omega)).mpr t5
theorem full_iff {N : Nat} (hN : N ≤ 120) : t_full N = 0 ↔ N < 120 := by
  unfold t_full
  rw [show (120 : Int32) = nI 120 by decide +kernel]
  by_cases h : N < 120
  · rw [if_pos ((nI_ltI (a := N) (b := 120) (by omega) (by omega)).mpr h)]
    exact ⟨fun _ => h, fun _ => rfl⟩
  · rw [if_neg (fun z => h ((nI_ltI (a := N) (b := 120) (by omega) (by omega)).mp z))]
    exact ⟨fun z => absurd z (by decide), fun z => absurd z h⟩
theorem node_both {S S2 : cS} {tr : aM} {N : Nat} {o o2 : Nat → Int32} {F F2 : Nat → Nat → Int32} {kd vv na nb nc r1 r2 : Int32} (hR : LR S tr N o F) (hw3 : W3 o o2) (ha : AW [0, 1, 2, 3, 4, 5] [] S S2) (hc : (r1 = -1 ∧ S2 = S ∧ ¬ NOK S N kd vv na nb nc) ∨ (NOK S N kd vv na nb nc ∧ ¬ t_full N = 0 ∧ r1 = -2 ∧ S2 = S) ∨ (NOK S N kd vv na nb nc ∧ N < 120 ∧ r1 = nI N ∧ ANP S S2 N kd vv na nb nc)) (hm : NPost tr N o F kd vv na nb nc r2 (o2, F2)) : r1 = r2 ∧ ∃ tr' N', LR S2 tr' N' o2 F2 := by
  obtain ⟨hCI, hI, hE, hZ, hW9⟩ := hR
  have hN := hI.1.2.1
  have hok : NOK S N kd vv na nb nc ↔ MOK (F 6) N kd vv na nb nc := mok_cg (f := kF S 2) hN (fun j hj => (hE.1 j hj).2.2.1)
  rcases hc with ⟨c1, c2, c3⟩ | ⟨c1, c2, c3, c4⟩ | ⟨c1, c2, c3, c4⟩
  · rcases hm with ⟨m1, m2, m3⟩ | ⟨m1, m2, m3, m4⟩ | ⟨m1, m2, m3, m4⟩
    · obtain ⟨rfl, rfl⟩ := Prod.mk.inj m2
      subst c2
      exact ⟨c1.trans m1.symm, tr, N, hCI, hI, hE, hZ, hW9⟩
    · exact absurd (hok.mpr m1) c3
    · exact absurd (hok.mpr m1) c3
  · rcases hm with ⟨m1, m2, m3⟩ | ⟨m1, m2, m3, m4⟩ | ⟨m1, m2, m3, m4⟩
    · exact absurd (hok.mp c1) m3
    · obtain ⟨rfl, rfl⟩ := Prod.mk.inj m4
      subst c4
      exact ⟨c3.trans m3.symm, tr, N, hCI, hI, hE, hZ, hW9⟩
    · exact absurd ((full_iff hN).mpr m2) c2
  · rcases hm with ⟨m1, m2, m3⟩ | ⟨m1, m2, m3, m4⟩ | ⟨m1, m2, m3, k, v, qs, n1, n2, n3, n4, n5⟩
    · exact absurd (hok.mp c1) m3
    · omega
    · obtain ⟨e1, e2⟩ := hE.node m2 c4 n2 n3 n4 n5
      exact ⟨c3.trans m3.symm, _, _, CI.of_aw hCI ha (TJ.of e2 n1 e1) (by
        obtain ⟨-, ⟨T, V, X, Y, Z, hY⟩, -⟩ := hCI
        exact ⟨T, V, X, Y, Z, hY.aw ha (by decide)⟩) (by decide) (by decide), n1, e1, hZ.node n1 n2 n3, hW9.keep ha (by decide) ⟨hw3, n2.2.2.2.2.2.2 52 (by decide), n2.2.2.2.2.2.2 53 (by decide), n2.2.2.2.2.2.2 54 (by decide), n2.2.2.2.2.2.2 55 (by decide)⟩ (fun n hn i hi => (n2.2.2.2.2.1 (6 * n + i) (by have := (hI.1.2.2 n hn).2.2.2.2.1; omega)).2) (Nat.le_succ _) (fun q hq => by rw [trN_o (by omega) (by decide)]; exact Nat.le_refl _)⟩
theorem field_both {S S2 : cS} {tr : aM} {N : Nat} {o o2 : Nat → Int32} {F F2 : Nat → Nat → Int32} {x y w r1 r2 : Int32} (hR : LR S tr N o F) (hw3 : W3 o o2) (ha : AW [2, 3, 4, 5, 6, 7, 8, 9, 16, 14, 10, 11, 12, 13, 17, 18] [12, 13, 14] S S2) (hc : (r1 = -1 ∧ S2 = S ∧ ¬ FOK S N x y w) ∨ (FOK S N x y w ∧ (¬ rget (kF S 0) N x = 5 ∨ ¬ t_hasL (kF S 3) (kF S 5) N x y = 0) ∧ r1 = -4 ∧ S2 = S) ∨ (FOK S N x y w ∧ (rget (kF S 0) N x = 5 ∧ t_hasL (kF S 3) (kF S 5) N x y = 0) ∧ ¬ t_pc (kF S 3) N x < 6 ∧ r1 = -2 ∧ S2 = S) ∨ (FOK S N x y w ∧ (rget (kF S 0) N x = 5 ∧ t_hasL (kF S 3) (kF S 5) N x y = 0) ∧ t_pc (kF S 3) N x < 6 ∧ r1 = t_pc (kF S2 3) N x ∧ FLD S S2 N x y w))
    (hm : ((o2, F2) = (o, F) ∧ r2 = -1 ∧ ¬ ∃ q y9 p9, q < N ∧ x = nI q ∧ y9 < 26 ∧ y = nI y9 ∧ p9 < N ∧ w = nI p9 ∧ F 6 p9 = -9 ∧ ¬ Wi tr q p9) ∨ ∃ q y9 p9, (q < N ∧ x = nI q ∧ y9 < 26 ∧ y = nI y9 ∧ p9 < N ∧ w = nI p9 ∧ F 6 p9 = -9 ∧ ¬ Wi tr q p9) ∧ ((tr 0 q = 5 ∧ tr 2 q = 6 ∧ (∀ i, i < tr 2 q → F 5 (6 * q + i) ≠ nI y9) ∧ r2 = -2 ∧ (o2, F2) = (o, F)) ∨ ((tr 0 q ≠ 5 ∨ ∃ i, i < tr 2 q ∧ F 5 (6 * q + i) = nI y9) ∧ r2 = -4 ∧ (o2, F2) = (o, F)) ∨ (tr 0 q = 5 ∧ tr 2 q < 6 ∧ (∀ i, i < tr 2 q → F 5 (6 * q + i) ≠ nI y9) ∧ r2 = nI (tr 2 q + 1) ∧ (o2, F2) = (upd (upd (upd (upd (upd (upd (upd (upd (upd (upd (upd (upd o 7 2) 14 0) 16 0) 22 0) 24 (-9)) 26 0) 27 0) 28 0) 31 0) 32 0) 33 0) 34 0, fput (fput (fput (fput F 4 (6 * q + tr 2 q) (nI p9)) 5 (6 * q + tr 2 q) (nI y9)) 6 p9 (nI q)) 3 q (nI (tr 2 q + 1)))))) : r1 = r2 ∧ ∃ tr', LR S2 tr' N o2 F2 := by
  obtain ⟨hCI, hI, hE, hZ, hW9⟩ := hR
  have hN := hI.1.2.1
  have hok := fok_iff (x := x) (y := y) (w := w) hI hE
  unfold FQ at hok
  rcases hm with ⟨m1, m2, m3⟩ | ⟨q, y9, p9, mq, hm⟩
  · obtain ⟨rfl, rfl⟩ := Prod.mk.inj m1
    rcases hc with ⟨c1, c2, c3⟩ | ⟨c1, -⟩ | ⟨c1, -⟩ | ⟨c1, -⟩
    · subst c2
      exact ⟨c1.trans m2.symm, tr, hCI, hI, hE, hZ, hW9⟩
    · exact absurd (hok.mp c1) m3
    · exact absurd (hok.mp c1) m3
    · exact absurd (hok.mp c1) m3
  · have h1 := hok.mpr ⟨q, y9, p9, mq⟩
    obtain ⟨hq, rfl, hy, rfl, hp, rfl, h9, hw⟩ := mq
    have hk := kind_iff hI hE hq
    have hl := lab_iff (y9 := y9) hI hE hq
    have hn := cnt_at hI hE hq
    have t5 := (hI.1.2.2 q hq).2.2.2.2.1
    rcases hc with ⟨-, -, c3⟩ | ⟨-, c2, c3, c4⟩ | ⟨-, ⟨c2, c3⟩, c4, c5, c6⟩ | ⟨-, ⟨c2, c3⟩, c4, c5, c6⟩
    · exact absurd h1 c3
    · rcases hm with ⟨m1, m2, m3, m4, m5⟩ | ⟨m1, m2, m3⟩ | ⟨m1, m2, m3, m4, m5⟩
      · exact absurd (c2.resolve_left (not_not_intro (hk.mpr m1))) (not_not_intro (hl.mpr m3))
      · obtain ⟨rfl, rfl⟩ := Prod.mk.inj m3
        subst c4
        exact ⟨c3.trans m2.symm, tr, hCI, hI, hE, hZ, hW9⟩
      · exact absurd (c2.resolve_left (not_not_intro (hk.mpr m1))) (not_not_intro (hl.mpr m3))
    · rw [hn] at c4
      have c4' : ¬ tr 2 q < 6 := fun z => c4 (lt6 z)
      rcases hm with ⟨m1, m2, m3, m4, m5⟩ | ⟨m1, m2, m3⟩ | ⟨m1, m2, m3, m4, m5⟩
      · obtain ⟨rfl, rfl⟩ := Prod.mk.inj m5
        subst c6
        exact ⟨c5.trans m4.symm, tr, hCI, hI, hE, hZ, hW9⟩
      · rcases m1 with m1 | ⟨i, m1, m1'⟩
        · exact absurd (hk.mp c2) m1
        · exact absurd m1' (hl.mp c3 i m1)
      · exact absurd m2 c4'
    · rw [hn] at c4
      have c4' : tr 2 q < 6 := (nI_ltI (a := tr 2 q) (b := 6) (by omega) (by omega)).mp c4
      rcases hm with ⟨m1, m2, m3, m4, m5⟩ | ⟨m1, m2, m3⟩ | ⟨m1, m2, m3, m4, m5⟩
      · omega
      · rcases m1 with m1 | ⟨i, m1, m1'⟩
        · exact absurd (hk.mp c2) m1
        · exact absurd m1' (hl.mp c3 i m1)
      · have hI' := hI.field hq hp hy h9 hw m1 m2 m5
        have hF : FldF F F2 q (tr 2 q) p9 y9 := (Prod.mk.inj m5).2
        have hE' := TEq.field hI hE hq hp m2 c6 hF
        have hTI : TI S2 N := c6.1
        have hY : TY S2 2 0 0 0 0 0 := c6.2.2.2.2.2.2.2
        refine ⟨?_, _, CI.of_aw hCI ha (TJ.of hTI hI' hE') ⟨_, _, _, _, _, hY⟩ (by decide) (by decide), hI', hE', hZ.field m1, hW9.keep ha (by decide) ⟨hw3, by rw [hF]; rfl, by rw [hF]; rfl, by rw [hF]; rfl, by rw [hF]; rfl⟩ (fun n hn i hi => by
          have f5 : F2 5 = upd (F 5) (6 * q + tr 2 q) (nI y9) := by rw [hF]; rfl
          have h6 := (hI.1.2.2 n hn).2.2.2.2.1
          rw [f5, upd_n (by
            by_cases e : n = q
            · subst e; omega
            · omega)]) (Nat.le_refl _) (fun n hn => by
          rw [trF_2]
          by_cases e : n = q
          · rw [if_pos e, e]; omega
          · rw [if_neg e]; exact Nat.le_refl _)⟩
        rw [c5, m4, cnt_at hI' hE' hq, trF_2, if_pos rfl]
