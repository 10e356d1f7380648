/-! ===== work: both programs answer the same ===== -/
theorem LR.dp {S : cS} {tr : aM} {N : Nat} {o : Nat → Int32} {F : Nat → Nat → Int32} (hR : LR S tr N o F) : ∃ dp : Nat → Nat, wmT tr N dp := by
  obtain ⟨hCI, hI, hE, hZ, hW9⟩ := hR
  obtain ⟨rk, hrk, -⟩ := id hI.2.2.1
  refine ⟨fun n => (List.range N).countP (fun j => decide (rk j < rk n)), fun n hn => ?_, fun n hn => ?_, fun n hn hk => ?_⟩
  · obtain ⟨t1, t2, t3, t4, t5, t6, t7, -⟩ := hI.1.2.2 n hn
    refine ⟨t2, t5, fun i hi => ?_⟩
    obtain ⟨p1, p2, p3⟩ := t7 i hi
    refine ⟨p2, ?_⟩
    have h3 : tr 3 (tr (10 + i) n) ≠ 0 := by omega
    have hP : tr 3 (tr (10 + i) n) - 1 = n := by omega
    have := rk_step (N := N) hrk h3 (by omega)
    rw [hP] at this
    exact this
  · have h1 := List.countP_le_length (p := fun j => decide (rk j < rk n)) (l := List.range N)
    rw [List.length_range] at h1
    exact Nat.le_trans h1 hI.1.2.1
  · exact ((hI.1.2.2 n hn).2.2.1 hk).2
theorem LR.tc {S : cS} {tr : aM} {N : Nat} {o : Nat → Int32} {F : Nat → Nat → Int32} (hR : LR S tr N o F) : TC S tr (F 2) N := by
  obtain ⟨hCI, hI, hE, hZ, hW9⟩ := hR
  refine ⟨hCI.1.1, fun n hn => ?_⟩
  obtain ⟨t1, t2, t3, t4, t5, t6, t7, t8, -⟩ := hI.1.2.2 n hn
  obtain ⟨e0, e1, e2, e3⟩ := hE.1 n hn
  refine ⟨e0.trans t1, e1, t3, e3.trans t4, t5, t2, hZ n hn, fun i hi => ?_, fun h5 i hi => ?_⟩
  · obtain ⟨p1, p2, -⟩ := t7 i (by rw [hZ n hn]; exact hi)
    exact ⟨(hE.2 _ (by omega)).1.trans p1, p2⟩
  · obtain ⟨p1, p2⟩ := t8 h5 i hi
    exact ⟨(hE.2 _ (by omega)).2.trans p1, p2⟩
theorem work_both {S S2 : cS} {tr : aM} {N : Nat} {o o2 : Nat → Int32} {F F2 : Nat → Nat → Int32} {mk : Nat → Int32} {dp : Nat → Nat} {x y r1 r2 : Int32} (hR : LR S tr N o F) (hTm : wmT tr N dp) (ha : AW [27, 28, 29, 30, 31, 32, 33, 34] [110, 111, 112, 113, 202] S S2) (hc : (r1 = -1 ∧ S2 = S ∧ ¬ ((∃ j, j < N ∧ x = nI j) ∧ ∃ w, w < 301 ∧ y = nI w)) ∨ ∃ q w9, q < N ∧ x = nI q ∧ w9 < 301 ∧ y = nI w9 ∧ CI S2 N ∧ WO9 S2 (wmo tr mk w9 q) r1 ∧ SV9 S2 tr (wmo tr mk w9 q)) (hm : (r2 = -1 ∧ (o2, F2) = (o, F) ∧ ¬ ((∃ j, j < N ∧ x = nI j) ∧ ∃ w, w < 301 ∧ y = nI w)) ∨ ∃ q w9, q < N ∧ x = nI q ∧ w9 < 301 ∧ y = nI w9 ∧ WV o2 F2 ∧ Kq LWa o F (o2, F2) ∧ MO9 (wmo tr mk w9 q) r2 (o2, F2) ∧ (hlt (wmo tr mk w9 q).1 = 0 → ∃ φ : Nat → Nat, (∀ v, v < wnv (wmo tr mk w9 q).1 → φ v < 400 ∧ MV tr F2 (wmo tr mk w9 q).1 φ v) ∧ o2 66 = nI (φ (wmo tr mk w9 q).2))) : r1 = r2 ∧ LR S2 tr N o2 F2 := by
  have hN := hR.2.1.1.2.1
  rcases hc with ⟨c1, c2, c3⟩ | ⟨q, w9, c1, c2, c3, c4, c5, c6, c7⟩
  · rcases hm with ⟨m1, m2, m3⟩ | ⟨q, w9, m1, m2, m3, m4, -⟩
    · obtain ⟨rfl, rfl⟩ := Prod.mk.inj m2
      subst c2
      exact ⟨c1.trans m1.symm, hR⟩
    · exact absurd ⟨⟨q, m1, m2⟩, w9, m3, m4⟩ c3
  · rcases hm with ⟨m1, m2, m3⟩ | ⟨q', w9', m1, m2, m3, m4, m5, m6, m7, m8⟩
    · exact absurd ⟨⟨q, c1, c2⟩, w9, c3, c4⟩ m3
    · obtain rfl : q = q' := (nI_eq (by omega) (by omega)).mp (c2.symm.trans m2)
      obtain rfl : w9 = w9' := (nI_eq (by omega) (by omega)).mp (c4.symm.trans m4)
      obtain ⟨hI, e7⟩ := hR.2.1.work m6 m5
      have e61 : o2 61 = nI (hlt (wmo tr mk w9 q).1) := m7.2.1
      have hh := wmx_h2 tr mk w9 60 wm0 q 0 (Nat.zero_le _)
      refine ⟨c6.1.trans m7.1.symm, c5, hI, hR.2.2.1.aw ha (by decide) e7, hR.2.2.2.1, c6.2.1.trans e61.symm, fun z => ?_⟩
      have hz : hlt (wmo tr mk w9 q).1 = 0 := (nI_eq (b := 0) (by show hlt (wmx tr mk w9 60 wm0 q 0).1 < _; omega) (by omega)).mp (e61.symm.trans z)
      obtain ⟨φ, f1, f2⟩ := m8 hz
      have hP := wmx_ok hTm mk w9 60 wm0 q 0 wm0_W rfl (Nat.zero_le _) c1 (Nat.le_refl _) (Nat.zero_le _)
      exact ⟨tr, N, dp, (wmo tr mk w9 q).1, φ, (wmo tr mk w9 q).2, ⟨f1, hP.1, hN, fun m h => (hI.1.2.2 m h).2.2.2.2.1, fun n hn h5 => ⟨(hI.1.2.2 n hn).2.2.2.2.1, fun i hi => (hI.1.2.2 n hn).2.2.2.2.2.2.2.1 h5 i hi⟩, hP.2.2.2 hz, f2⟩, Nat.le_refl _, fun _ _ _ => Nat.le_refl _, c7 hz⟩
theorem w3_field {tr : aM} {N : Nat} {o o2 : Nat → Int32} {F F2 : Nat → Nat → Int32} {x y w r2 : Int32} (hm : ((o2, F2) = (o, F) ∧ r2 = -1 ∧ ¬ ∃ q y9 p9, q < N ∧ x = nI q ∧ y9 < 26 ∧ y = nI y9 ∧ p9 < N ∧ w = nI p9 ∧ F 6 p9 = -9 ∧ ¬ Wi tr q p9) ∨ ∃ q y9 p9, (q < N ∧ x = nI q ∧ y9 < 26 ∧ y = nI y9 ∧ p9 < N ∧ w = nI p9 ∧ F 6 p9 = -9 ∧ ¬ Wi tr q p9) ∧ ((tr 0 q = 5 ∧ tr 2 q = 6 ∧ (∀ i, i < tr 2 q → F 5 (6 * q + i) ≠ nI y9) ∧ r2 = -2 ∧ (o2, F2) = (o, F)) ∨ ((tr 0 q ≠ 5 ∨ ∃ i, i < tr 2 q ∧ F 5 (6 * q + i) = nI y9) ∧ r2 = -4 ∧ (o2, F2) = (o, F)) ∨ (tr 0 q = 5 ∧ tr 2 q < 6 ∧ (∀ i, i < tr 2 q → F 5 (6 * q + i) ≠ nI y9) ∧ r2 = nI (tr 2 q + 1) ∧ (o2, F2) = (upd (upd (upd (upd (upd (upd (upd (upd (upd (upd (upd (upd o 7 2) 14 0) 16 0) 22 0) 24 (-9)) 26 0) 27 0) 28 0) 31 0) 32 0) 33 0) 34 0, fput (fput (fput (fput F 4 (6 * q + tr 2 q) (nI p9)) 5 (6 * q + tr 2 q) (nI y9)) 6 p9 (nI q)) 3 q (nI (tr 2 q + 1)))))) : W3 o o2 := by
  rcases hm with ⟨m1, -⟩ | ⟨q, y9, p9, -, hm⟩
  · exact w3_eq (u := (o2, F2)) m1
  · rcases hm with ⟨-, -, -, -, m1⟩ | hm
    · exact w3_eq (u := (o2, F2)) m1
    · rcases hm with ⟨-, -, m1⟩ | ⟨-, -, -, -, m1⟩
      · exact w3_eq (u := (o2, F2)) m1
      · obtain ⟨rfl, -⟩ := Prod.mk.inj m1
        exact ⟨rfl, rfl⟩
