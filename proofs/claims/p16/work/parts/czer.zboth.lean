/-! ===== digest in both programs: empty places are told too ===== -/
def TRz (tr : aM) (N : Nat) (F : Nat → Nat → Int32) : Prop := ∀ n, n < N → ∀ i, i < 6 → tr 2 n ≤ i → F 4 (6 * n + i) = -9 ∧ F 5 (6 * n + i) = -9
theorem TRz.kq {tr : aM} {N : Nat} {F F' : Nat → Nat → Int32} (h : TRz tr N F) (e : ∀ k, k < 7 → F' k = F k) : TRz tr N F' := by
  unfold TRz at h ⊢
  rw [e 4 (by decide), e 5 (by decide)]
  exact h
theorem TRz.node {tr : aM} {N k v : Nat} {qs : List Nat} {F F' : Nat → Nat → Int32} {x vm : Int32} (h : TRz tr N F) (hF : NodeF F F' N x vm qs) : TRz (trN tr N k v qs) (N + 1) F' := by
  obtain ⟨-, -, -, -, f45, fN, -⟩ := hF
  intro n hn i hi hc
  by_cases e : n = N
  · subst e
    have k2 : trN tr n k v qs 2 n = qs.length := by
      unfold trN
      rw [if_pos rfl]
      rfl
    rw [k2] at hc
    refine ⟨?_, (fN i hi).2⟩
    rw [(fN i hi).1, if_neg (by omega)]
  · rw [trN_o e (by decide)] at hc
    rw [(f45 (6 * n + i) (by omega)).1, (f45 (6 * n + i) (by omega)).2]
    exact h n (by omega) i hi hc
theorem TRz.field {tr : aM} {N q p9 y9 : Nat} {F F' : Nat → Nat → Int32} (h : TRz tr N F) (hc6 : tr 2 q < 6) (hF : FldF F F' q (tr 2 q) p9 y9) : TRz (trF tr q p9 y9 (tr 2 q)) N F' := by
  have f4 : F' 4 = upd (F 4) (6 * q + tr 2 q) (nI p9) := by rw [hF]; rfl
  have f5 : F' 5 = upd (F 5) (6 * q + tr 2 q) (nI y9) := by rw [hF]; rfl
  intro n hn i hi hc
  rw [trF_2] at hc
  rw [f4, f5]
  by_cases e : n = q
  · rw [if_pos e] at hc
    rw [upd_n (by omega), upd_n (by omega)]
    exact h n hn i hi (by rw [e]; omega)
  · rw [if_neg e] at hc
    rw [upd_n (by omega), upd_n (by omega)]
    exact h n hn i hi hc
/-! ===== told: both programs tell the same ===== -/
theorem part_all {f3 g : Nat → Int32} {N q c i : Nat} (hq : q < N) (hN : N ≤ 120) (h : f3 q = nI c) (hc : c ≤ 6) (hi : i < 6) : t_part f3 g N (nI q) (nI i) = if i < c then g (6 * q + i) else -9 := by
  by_cases hj : i < c
  · rw [if_pos hj, part_at hq hN h hc hj]
  · rw [if_neg hj]
    unfold t_part
    rw [if_neg (nI_n0 (by omega)), rget_at hq (by omega), h, if_pos ((nI_leI (by omega) (by omega)).mpr (by omega))]
theorem told_eq {S : cS} {tr : aM} {N : Nat} {o : Nat → Int32} {F : Nat → Nat → Int32} {x y r1 r2 : Int32} (hI : RI tr N o F) (hE : TEq S F N) (hZ : TRz tr N F) (h1 : r1 = x_tv S N x y) (h2 : (r2 = -1 ∧ ¬ ((∃ j, j < N ∧ x = nI j) ∧ ∃ w, w < 16 ∧ y = nI w)) ∨ ∃ j w, j < N ∧ x = nI j ∧ w < 16 ∧ y = nI w ∧ r2 = mTold F j w) : r1 = r2 := by
  have hN := hI.1.2.1
  have h16 : (16 : Int32) = nI 16 := by decide +kernel
  rw [h1]
  rcases h2 with ⟨rfl, hn⟩ | ⟨j, w, hj, rfl, hw, rfl, rfl⟩
  · unfold x_tv
    by_cases hx : ∃ j, j < N ∧ x = nI j
    · rw [if_neg ((holds_iff (by omega)).mpr hx)]
      rcases in_or (k := 16) (i := y) (by decide) with z | z | ⟨z1, z2⟩
      · exact absurd ⟨hx, z⟩ hn
      · rw [if_pos z]
      · rw [if_neg z1, h16, if_pos z2]
    · rw [if_pos (Classical.byContradiction fun z => hx ((holds_iff (by omega)).mp z))]
  · obtain ⟨t1, t2, t3, t4, t5, -⟩ := hI.1.2.2 j hj
    obtain ⟨e0, e1, e2, e3⟩ := hE.1 j hj
    have h3 : kF S 3 j = nI (tr 2 j) := e3.trans t4
    unfold x_tv mTold
    rw [if_neg ((holds_iff (by omega)).mpr ⟨j, hj, rfl⟩), if_neg (nI_n0 (by omega)), h16, if_neg (by rw [nI_leI (by omega) (by omega)]; omega)]
    by_cases w0 : w = 0
    · subst w0
      rw [if_pos (show nI 0 = 0 by decide), if_pos rfl, rget_at hj (by omega), e0]
    · rw [if_neg (show ¬ nI w = 0 from fun z => w0 ((nI_eq (b := 0) (by omega) (by omega)).mp z)), if_neg w0]
      by_cases w1 : w = 1
      · subst w1
        rw [if_pos (show nI 1 = 1 by decide), if_pos rfl, rget_at hj (by omega), e1]
      · rw [if_neg (show ¬ nI w = 1 from fun z => w1 ((nI_eq (b := 1) (by omega) (by omega)).mp z)), if_neg w1]
        by_cases w2 : w = 2
        · subst w2
          rw [if_pos (show nI 2 = 2 by decide), if_pos rfl, cnt_at hI hE hj, t4]
        · rw [if_neg (show ¬ nI w = 2 from fun z => w2 ((nI_eq (b := 2) (by omega) (by omega)).mp z)), if_neg w2]
          by_cases w3 : w = 3
          · subst w3
            rw [if_pos (show nI 3 = 3 by decide), if_pos rfl, rget_at hj (by omega), e2]
          · rw [if_neg (show ¬ nI w = 3 from fun z => w3 ((nI_eq (b := 3) (by omega) (by omega)).mp z)), if_neg w3]
            by_cases w9 : w < 10
            · rw [if_pos (show nI w < 10 from (nI_ltI (a := w) (b := 10) (by omega) (by omega)).mpr w9), if_pos w9, show nI w - 4 = nI (w - 4) from pk_sub (a := w) (b := 4) (by omega), part_all hj hN h3 t5 (by omega), show 6 * j + w - 4 = 6 * j + (w - 4) by omega]
              by_cases hc : w - 4 < tr 2 j
              · rw [if_pos hc]
                exact (hE.2 _ (by omega)).1
              · rw [if_neg hc]
                exact (hZ j hj (w - 4) (by omega) (by omega)).1.symm
            · rw [if_neg (show ¬ nI w < 10 from fun z => w9 ((nI_ltI (a := w) (b := 10) (by omega) (by omega)).mp z)), if_neg w9, show nI w - 10 = nI (w - 10) from pk_sub (a := w) (b := 10) (by omega), part_all hj hN h3 t5 (by omega), show 6 * j + w - 10 = 6 * j + (w - 10) by omega]
              by_cases hc : w - 10 < tr 2 j
              · rw [if_pos hc]
                exact (hE.2 _ (by omega)).2
              · rw [if_neg hc]
                exact (hZ j hj (w - 10) (by omega) (by omega)).2.symm
theorem dig_eq {S : cS} {tr : aM} {N V : Nat} {o : Nat → Int32} {F : Nat → Nat → Int32} {z : aS} (hI : RI tr N o F) (hE : TEq S F N) (hZ : TRz tr N F) : dgo (vrf z) 3 V (dgo (x_tf S N) 16 N 17) = dgo (vrf z) 3 V (dgo (mTold F) 16 N 17) := by
  rw [dgo_cg (f := x_tf S N) (g := mTold F) N (fun i hi j hj => told_eq (x := nI i) (y := nI j) hI hE hZ rfl (Or.inr ⟨i, j, hi, rfl, hj, rfl, rfl⟩))]
theorem TY9.o14 {o : Nat → Int32} {F : Nat → Nat → Int32} {z : aS} (h : (Z0 z ∧ sto z = 0 ∧ o 14 = 0 ∧ o 24 = -9) ∨ ∃ ix, MR z ix o F) : o 14 = nI (nV z) := by
  rcases h with ⟨h4, -, h6, -⟩ | ⟨ix, h4⟩
  · rw [h4.2.1, h6]
    rfl
  · exact h4.1.2.1
theorem m7_type {o o2 : Nat → Int32} {F F2 : Nat → Nat → Int32} {A P : Prop} {B1 B2 B3 B4 B5 B6 : Nat → Prop} (h : (A ∧ (o2, F2) = (o, F) ∧ P) ∨ ∃ q, B1 q ∧ B2 q ∧ B3 q ∧ B4 q ∧ B5 q ∧ B6 q ∧ (∀ k, k < 7 ∨ 45 < k → o2 k = o k ∧ F2 k = F k)) : ∀ k, k < 7 → F2 k = F k := by
  rcases h with ⟨-, h, -⟩ | ⟨q, -, -, -, -, -, -, h⟩
  · obtain ⟨rfl, rfl⟩ := Prod.mk.inj h
    exact fun _ _ => rfl
  · exact fun k hk => (h k (Or.inl hk)).2
theorem m7_work {o o2 : Nat → Int32} {F F2 : Nat → Nat → Int32} {A P : Prop} {B1 B2 B3 B4 B5 B6 : Nat → Nat → Prop} (h : (A ∧ (o2, F2) = (o, F) ∧ P) ∨ ∃ q w9, B1 q w9 ∧ B2 q w9 ∧ B3 q w9 ∧ B4 q w9 ∧ B5 q w9 ∧ Kq LWa o F (o2, F2) ∧ B6 q w9) : ∀ k, k < 7 → F2 k = F k := by
  rcases h with ⟨-, h, -⟩ | ⟨q, w9, -, -, -, -, -, h, -⟩
  · obtain ⟨rfl, rfl⟩ := Prod.mk.inj h
    exact fun _ _ => rfl
  · exact fun k hk => (h k (by
      have hL : ∀ j, j < 7 → j ∉ LWa := by decide
      exact hL k hk)).2
theorem node_bz {S S2 : cS} {tr : aM} {N i : Nat} {o o2 : Nat → Int32} {F F2 : Nat → Nat → Int32} {kd vv na nb nc r1 r2 : Int32} (hR : LRt S tr N o F i) (hz9 : TRz tr N F) (hw3 : W3 o o2) (hk1 : K1 o o2) (ha : AW [0, 1, 2, 3, 4, 5] [] S S2) (hc : (r1 = -1 ∧ S2 = S ∧ ¬ NOK S N kd vv na nb nc) ∨ (NOK S N kd vv na nb nc ∧ ¬ t_full N = 0 ∧ r1 = -2 ∧ S2 = S) ∨ (NOK S N kd vv na nb nc ∧ N < 120 ∧ r1 = nI N ∧ ANP S S2 N kd vv na nb nc)) (hm : NPost tr N o F kd vv na nb nc r2 (o2, F2)) : r1 = r2 ∧ ∃ tr' N', LRt S2 tr' N' o2 F2 (i + 1) ∧ TRz tr' N' F2 := by
  obtain ⟨⟨hCI, hI, hE, hZ, hW9⟩, hT⟩ := hR
  have hN := hI.1.2.1
  have hok : NOK S N kd vv na nb nc ↔ MOK (F 6) N kd vv na nb nc := mok_cg (f := kF S 2) hN (fun j hj => (hE.1 j hj).2.2.1)
  rcases hc with ⟨c1, c2, c3⟩ | ⟨c1, c2, c3, c4⟩ | ⟨c1, c2, c3, c4⟩
  · rcases hm with ⟨m1, m2, m3⟩ | ⟨m1, m2, m3, m4⟩ | ⟨m1, m2, m3, m4⟩
    · obtain ⟨rfl, rfl⟩ := Prod.mk.inj m2
      subst c2
      exact ⟨c1.trans m1.symm, tr, N, ⟨⟨hCI, hI, hE, hZ, hW9⟩, hT.up⟩, hz9⟩
    · exact absurd (hok.mpr m1) c3
    · exact absurd (hok.mpr m1) c3
  · rcases hm with ⟨m1, m2, m3⟩ | ⟨m1, m2, m3, m4⟩ | ⟨m1, m2, m3, m4⟩
    · exact absurd (hok.mp c1) m3
    · obtain ⟨rfl, rfl⟩ := Prod.mk.inj m4
      subst c4
      exact ⟨c3.trans m3.symm, tr, N, ⟨⟨hCI, hI, hE, hZ, hW9⟩, hT.up⟩, hz9⟩
    · exact absurd ((full_iff hN).mpr m2) c2
  · rcases hm with ⟨m1, m2, m3⟩ | ⟨m1, m2, m3, m4⟩ | ⟨m1, m2, m3, k, v, qs, n1, n2, n3, n4, n5⟩
    · exact absurd (hok.mp c1) m3
    · omega
    · obtain ⟨e1, e2⟩ := hE.node m2 c4 n2 n3 n4 n5
      exact ⟨c3.trans m3.symm, _, _, ⟨⟨CI.of_aw hCI ha (TJ.of e2 n1 e1) (by
        obtain ⟨-, ⟨T, V, X, Y, Z, hY⟩, -⟩ := hCI
        exact ⟨T, V, X, Y, Z, hY.aw ha (by decide)⟩) (by decide) (by decide), n1, e1, hZ.node n1 n2 n3, hW9.keep ha (by decide) ⟨hw3, n2.2.2.2.2.2.2 52 (by decide), n2.2.2.2.2.2.2 53 (by decide), n2.2.2.2.2.2.2 54 (by decide), n2.2.2.2.2.2.2 55 (by decide)⟩ (fun n hn i hi => (n2.2.2.2.2.1 (6 * n + i) (by have := (hI.1.2.2 n hn).2.2.2.2.1; omega)).2) (Nat.le_succ _) (fun q hq => by rw [trN_o (by omega) (by decide)]; exact Nat.le_refl _)⟩, hT.keep ha (by decide) (by decide) (mk_node (u := (o2, F2)) hk1 n2.2.2.2.2.2.2)⟩, hz9.node n2⟩
theorem field_bz {S S2 : cS} {tr : aM} {N i : Nat} {o o2 : Nat → Int32} {F F2 : Nat → Nat → Int32} {x y w r1 r2 : Int32} (hR : LRt S tr N o F i) (hz9 : TRz tr N F) (hw3 : W3 o o2) (ha : AW [2, 3, 4, 5, 6, 7, 8, 9, 16, 14, 10, 11, 12, 13, 17, 18] [12, 13, 14] S S2) (hc : (r1 = -1 ∧ S2 = S ∧ ¬ FOK S N x y w) ∨ (FOK S N x y w ∧ (¬ rget (kF S 0) N x = 5 ∨ ¬ t_hasL (kF S 3) (kF S 5) N x y = 0) ∧ r1 = -4 ∧ S2 = S) ∨ (FOK S N x y w ∧ (rget (kF S 0) N x = 5 ∧ t_hasL (kF S 3) (kF S 5) N x y = 0) ∧ ¬ t_pc (kF S 3) N x < 6 ∧ r1 = -2 ∧ S2 = S) ∨ (FOK S N x y w ∧ (rget (kF S 0) N x = 5 ∧ t_hasL (kF S 3) (kF S 5) N x y = 0) ∧ t_pc (kF S 3) N x < 6 ∧ r1 = t_pc (kF S2 3) N x ∧ FLD S S2 N x y w ∧ S0 S2 ∧ S2.1 13 = -9))
    (hm : ((o2, F2) = (o, F) ∧ r2 = -1 ∧ ¬ ∃ q y9 p9, q < N ∧ x = nI q ∧ y9 < 26 ∧ y = nI y9 ∧ p9 < N ∧ w = nI p9 ∧ F 6 p9 = -9 ∧ ¬ Wi tr q p9) ∨ ∃ q y9 p9, (q < N ∧ x = nI q ∧ y9 < 26 ∧ y = nI y9 ∧ p9 < N ∧ w = nI p9 ∧ F 6 p9 = -9 ∧ ¬ Wi tr q p9) ∧ ((tr 0 q = 5 ∧ tr 2 q = 6 ∧ (∀ i, i < tr 2 q → F 5 (6 * q + i) ≠ nI y9) ∧ r2 = -2 ∧ (o2, F2) = (o, F)) ∨ ((tr 0 q ≠ 5 ∨ ∃ i, i < tr 2 q ∧ F 5 (6 * q + i) = nI y9) ∧ r2 = -4 ∧ (o2, F2) = (o, F)) ∨ (tr 0 q = 5 ∧ tr 2 q < 6 ∧ (∀ i, i < tr 2 q → F 5 (6 * q + i) ≠ nI y9) ∧ r2 = nI (tr 2 q + 1) ∧ (o2, F2) = (upd (upd (upd (upd (upd (upd (upd (upd (upd (upd (upd (upd o 7 2) 14 0) 16 0) 22 0) 24 (-9)) 26 0) 27 0) 28 0) 31 0) 32 0) 33 0) 34 0, fput (fput (fput (fput F 4 (6 * q + tr 2 q) (nI p9)) 5 (6 * q + tr 2 q) (nI y9)) 6 p9 (nI q)) 3 q (nI (tr 2 q + 1)))))) : r1 = r2 ∧ ∃ tr', LRt S2 tr' N o2 F2 (i + 1) ∧ TRz tr' N F2 := by
  obtain ⟨⟨hCI, hI, hE, hZ, hW9⟩, hT⟩ := hR
  have hN := hI.1.2.1
  have hok := fok_iff (x := x) (y := y) (w := w) hI hE
  unfold FQ at hok
  rcases hm with ⟨m1, m2, m3⟩ | ⟨q, y9, p9, mq, hm⟩
  · obtain ⟨rfl, rfl⟩ := Prod.mk.inj m1
    rcases hc with ⟨c1, c2, c3⟩ | ⟨c1, -⟩ | ⟨c1, -⟩ | ⟨c1, -⟩
    · subst c2
      exact ⟨c1.trans m2.symm, tr, ⟨⟨hCI, hI, hE, hZ, hW9⟩, hT.up⟩, hz9⟩
    · exact absurd (hok.mp c1) m3
    · exact absurd (hok.mp c1) m3
    · exact absurd (hok.mp c1) m3
  · have h1 := hok.mpr ⟨q, y9, p9, mq⟩
    obtain ⟨hq, rfl, hy, rfl, hp, rfl, h9, hw⟩ := mq
    have hk := kind_iff hI hE hq
    have hl := lab_iff (y9 := y9) hI hE hq
    have hn := cnt_at hI hE hq
    have t5 := (hI.1.2.2 q hq).2.2.2.2.1
    rcases hc with ⟨-, -, c3⟩ | ⟨-, c2, c3, c4⟩ | ⟨-, ⟨c2, c3⟩, c4, c5, c6⟩ | ⟨-, ⟨c2, c3⟩, c4, c5, c6⟩
    · exact absurd h1 c3
    · rcases hm with ⟨m1, m2, m3, m4, m5⟩ | ⟨m1, m2, m3⟩ | ⟨m1, m2, m3, m4, m5⟩
      · exact absurd (c2.resolve_left (not_not_intro (hk.mpr m1))) (not_not_intro (hl.mpr m3))
      · obtain ⟨rfl, rfl⟩ := Prod.mk.inj m3
        subst c4
        exact ⟨c3.trans m2.symm, tr, ⟨⟨hCI, hI, hE, hZ, hW9⟩, hT.up⟩, hz9⟩
      · exact absurd (c2.resolve_left (not_not_intro (hk.mpr m1))) (not_not_intro (hl.mpr m3))
    · rw [hn] at c4
      have c4' : ¬ tr 2 q < 6 := fun z => c4 (lt6 z)
      rcases hm with ⟨m1, m2, m3, m4, m5⟩ | ⟨m1, m2, m3⟩ | ⟨m1, m2, m3, m4, m5⟩
      · obtain ⟨rfl, rfl⟩ := Prod.mk.inj m5
        subst c6
        exact ⟨c5.trans m4.symm, tr, ⟨⟨hCI, hI, hE, hZ, hW9⟩, hT.up⟩, hz9⟩
      · rcases m1 with m1 | ⟨i, m1, m1'⟩
        · exact absurd (hk.mp c2) m1
        · exact absurd m1' (hl.mp c3 i m1)
      · exact absurd m2 c4'
    · rw [hn] at c4
      have c4' : tr 2 q < 6 := (nI_ltI (a := tr 2 q) (b := 6) (by omega) (by omega)).mp c4
      rcases hm with ⟨m1, m2, m3, m4, m5⟩ | ⟨m1, m2, m3⟩ | ⟨m1, m2, m3, m4, m5⟩
      · omega
      · rcases m1 with m1 | ⟨i, m1, m1'⟩
        · exact absurd (hk.mp c2) m1
        · exact absurd m1' (hl.mp c3 i m1)
      · have hI' := hI.field hq hp hy h9 hw m1 m2 m5
        have hF : FldF F F2 q (tr 2 q) p9 y9 := (Prod.mk.inj m5).2
        have hE' := TEq.field hI hE hq hp m2 c6.1 hF
        have hTI : TI S2 N := c6.1.1
        have hY : TY S2 2 0 0 0 0 0 := c6.1.2.2.2.2.2.2.2
        have hN0 : TY9 S2 o2 F2 (i + 1) := by
          obtain ⟨z, tm, h1, h2, h3⟩ := hT
          obtain ⟨kt, -⟩ := kt_start hY c6.2.1 (z0_zS 0)
          have d14 : o2 14 = 0 := by rw [(Prod.mk.inj m5).1]; rfl
          have d24 : o2 24 = -9 := by rw [(Prod.mk.inj m5).1]; rfl
          exact ⟨zS 0, tm, ⟨kt, h1.2.1.aw ha (by decide), (ha.1 8 (by decide)).trans h1.2.2.1, ⟨(ha.2.1 23 (lt35 (by decide)) (by decide)).2.trans h1.2.2.2.1.1, (ha.2.1 24 (lt35 (by decide)) (by decide)).2.trans h1.2.2.2.1.2⟩, c6.2.2.trans (wc_0 (z := zS 0) rfl).symm⟩, by omega, Or.inl ⟨z0_zS 0, rfl, d14, d24⟩⟩
        refine ⟨?_, _, ⟨⟨CI.of_aw hCI ha (TJ.of hTI hI' hE') ⟨_, _, _, _, _, hY⟩ (by decide) (by decide), hI', hE', hZ.field m1, hW9.keep ha (by decide) ⟨hw3, by rw [hF]; rfl, by rw [hF]; rfl, by rw [hF]; rfl, by rw [hF]; rfl⟩ (fun n hn i hi => by
          have f5 : F2 5 = upd (F 5) (6 * q + tr 2 q) (nI y9) := by rw [hF]; rfl
          have h6 := (hI.1.2.2 n hn).2.2.2.2.1
          rw [f5, upd_n (by
            by_cases e : n = q
            · subst e; omega
            · omega)]) (Nat.le_refl _) (fun n hn => by
          rw [trF_2]
          by_cases e : n = q
          · rw [if_pos e, e]; omega
          · rw [if_neg e]; exact Nat.le_refl _)⟩, hN0⟩, hz9.field m2 hF⟩
        rw [c5, m4, cnt_at hI' hE' hq, trF_2, if_pos rfl]
theorem lgc_eq {a b : Int64} (h : a = b) : lg_cmp a b = 0 := by
  subst h
  unfold lg_cmp
  rw [if_neg (fun h => absurd (Int64.lt_iff_toInt_lt.mp h) (Int.lt_irrefl _)), if_pos rfl]
