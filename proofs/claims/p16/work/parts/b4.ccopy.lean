theorem dX5_otherWay_0 : decode cX5_otherWay 0 = .ok (.iload_n 0, 1) := by decide +kernel
theorem dX5_otherWay_1 : decode cX5_otherWay 1 = .ok (.iconst 2, 1) := by decide +kernel
theorem dX5_otherWay_2 : decode cX5_otherWay 2 = .ok (.if_icmp .ne 5, 3) := by decide +kernel
theorem dX5_otherWay_7 : decode cX5_otherWay 7 = .ok (.iload_n 0, 1) := by decide +kernel
theorem dX5_otherWay_8 : decode cX5_otherWay 8 = .ok (.ifCond .ne 7, 3) := by decide +kernel
theorem dX5_otherWay_15 : decode cX5_otherWay 15 = .ok (.iconst 0, 1) := by decide +kernel
theorem dX5_otherWay_16 : decode cX5_otherWay 16 = .ok (.ireturn, 1) := by decide +kernel
theorem dX5_otherWay_11 : decode cX5_otherWay 11 = .ok (.iconst 1, 1) := by decide +kernel
theorem dX5_otherWay_12 : decode cX5_otherWay 12 = .ok (.goto 4, 3) := by decide +kernel
theorem dX5_otherWay_5 : decode cX5_otherWay 5 = .ok (.iconst 2, 1) := by decide +kernel
theorem dX5_otherWay_6 : decode cX5_otherWay 6 = .ok (.ireturn, 1) := by decide +kernel
theorem dX5_isTaken_0 : decode cX5_isTaken 0 = .ok (.iload_n 1, 1) := by decide +kernel
theorem dX5_isTaken_1 : decode cX5_isTaken 1 = .ok (.iconst 2, 1) := by decide +kernel
theorem dX5_isTaken_2 : decode cX5_isTaken 2 = .ok (.if_icmp .eq 16, 3) := by decide +kernel
theorem dX5_isTaken_18 : decode cX5_isTaken 18 = .ok (.iconst 1, 1) := by decide +kernel
theorem dX5_isTaken_19 : decode cX5_isTaken 19 = .ok (.goto 4, 3) := by decide +kernel
theorem dX5_isTaken_23 : decode cX5_isTaken 23 = .ok (.ireturn, 1) := by decide +kernel
theorem dX5_isTaken_5 : decode cX5_isTaken 5 = .ok (.iload_n 0, 1) := by decide +kernel
theorem dX5_isTaken_6 : decode cX5_isTaken 6 = .ok (.iload_n 1, 1) := by decide +kernel
theorem dX5_isTaken_7 : decode cX5_isTaken 7 = .ok (.ifCond .ne 7, 3) := by decide +kernel
theorem dX5_isTaken_14 : decode cX5_isTaken 14 = .ok (.iconst 1, 1) := by decide +kernel
theorem dX5_isTaken_15 : decode cX5_isTaken 15 = .ok (.if_icmp .ne 7, 3) := by decide +kernel
theorem dX5_isTaken_22 : decode cX5_isTaken 22 = .ok (.iconst 0, 1) := by decide +kernel
theorem dX5_isTaken_10 : decode cX5_isTaken 10 = .ok (.iconst 0, 1) := by decide +kernel
theorem dX5_isTaken_11 : decode cX5_isTaken 11 = .ok (.goto 4, 3) := by decide +kernel
theorem dX5_startCopying_0 : decode cX5_startCopying 0 = .ok (.aload_n 0, 1) := by decide +kernel
theorem dX5_startCopying_1 : decode cX5_startCopying 1 = .ok (.dup, 1) := by decide +kernel
theorem dX5_startCopying_2 : decode cX5_startCopying 2 = .ok (.getfield 212, 3) := by decide +kernel
theorem dX5_startCopying_5 : decode cX5_startCopying 5 = .ok (.iconst 1, 1) := by decide +kernel
theorem dX5_startCopying_6 : decode cX5_startCopying 6 = .ok (.iadd, 1) := by decide +kernel
theorem dX5_startCopying_7 : decode cX5_startCopying 7 = .ok (.putfield 212, 3) := by decide +kernel
theorem dX5_startCopying_10 : decode cX5_startCopying 10 = .ok (.aload_n 0, 1) := by decide +kernel
theorem dX5_startCopying_11 : decode cX5_startCopying 11 = .ok (.iload_n 1, 1) := by decide +kernel
theorem dX5_startCopying_12 : decode cX5_startCopying 12 = .ok (.putfield 215, 3) := by decide +kernel
theorem dX5_startCopying_15 : decode cX5_startCopying 15 = .ok (.aload_n 0, 1) := by decide +kernel
theorem dX5_startCopying_16 : decode cX5_startCopying 16 = .ok (.iload_n 2, 1) := by decide +kernel
theorem dX5_startCopying_17 : decode cX5_startCopying 17 = .ok (.putfield 218, 3) := by decide +kernel
theorem dX5_startCopying_20 : decode cX5_startCopying 20 = .ok (.return_, 1) := by decide +kernel
theorem dX5_gives_0 : decode cX5_gives 0 = .ok (.aload_n 0, 1) := by decide +kernel
theorem dX5_gives_1 : decode cX5_gives 1 = .ok (.getfield 41, 3) := by decide +kernel
theorem dX5_gives_4 : decode cX5_gives 4 = .ok (.iload_n 1, 1) := by decide +kernel
theorem dX5_gives_5 : decode cX5_gives 5 = .ok (.iload_n 2, 1) := by decide +kernel
theorem dX5_gives_6 : decode cX5_gives 6 = .ok (.invokevirtual 134, 3) := by decide +kernel
theorem dX5_gives_9 : decode cX5_gives 9 = .ok (.aload_n 0, 1) := by decide +kernel
theorem dX5_gives_10 : decode cX5_gives 10 = .ok (.getfield 45, 3) := by decide +kernel
theorem dX5_gives_13 : decode cX5_gives 13 = .ok (.iload_n 1, 1) := by decide +kernel
theorem dX5_gives_14 : decode cX5_gives 14 = .ok (.iload_n 3, 1) := by decide +kernel
theorem dX5_gives_15 : decode cX5_gives 15 = .ok (.invokevirtual 134, 3) := by decide +kernel
theorem dX5_gives_18 : decode cX5_gives 18 = .ok (.return_, 1) := by decide +kernel
theorem dX5_whatIsDue_0 : decode cX5_whatIsDue 0 = .ok (.aload_n 0, 1) := by decide +kernel
theorem dX5_whatIsDue_1 : decode cX5_whatIsDue 1 = .ok (.getfield 12, 3) := by decide +kernel
theorem dX5_whatIsDue_4 : decode cX5_whatIsDue 4 = .ok (.iload_n 1, 1) := by decide +kernel
theorem dX5_whatIsDue_5 : decode cX5_whatIsDue 5 = .ok (.invokevirtual 209, 3) := by decide +kernel
theorem dX5_whatIsDue_8 : decode cX5_whatIsDue 8 = .ok (.istore_n 3, 1) := by decide +kernel
theorem dX5_whatIsDue_9 : decode cX5_whatIsDue 9 = .ok (.aload_n 0, 1) := by decide +kernel
theorem dX5_whatIsDue_10 : decode cX5_whatIsDue 10 = .ok (.getfield 12, 3) := by decide +kernel
theorem dX5_whatIsDue_13 : decode cX5_whatIsDue 13 = .ok (.iload_n 2, 1) := by decide +kernel
theorem dX5_whatIsDue_14 : decode cX5_whatIsDue 14 = .ok (.invokevirtual 209, 3) := by decide +kernel
theorem dX5_whatIsDue_17 : decode cX5_whatIsDue 17 = .ok (.istore 4, 2) := by decide +kernel
theorem dX5_whatIsDue_19 : decode cX5_whatIsDue 19 = .ok (.iload_n 3, 1) := by decide +kernel
theorem dX5_whatIsDue_20 : decode cX5_whatIsDue 20 = .ok (.iconst 4, 1) := by decide +kernel
theorem dX5_whatIsDue_21 : decode cX5_whatIsDue 21 = .ok (.if_icmp .ne 24, 3) := by decide +kernel
theorem dX5_whatIsDue_45 : decode cX5_whatIsDue 45 = .ok (.iload 4, 2) := by decide +kernel
theorem dX5_whatIsDue_47 : decode cX5_whatIsDue 47 = .ok (.iconst 4, 1) := by decide +kernel
theorem dX5_whatIsDue_48 : decode cX5_whatIsDue 48 = .ok (.if_icmp .ne 24, 3) := by decide +kernel
theorem dX5_whatIsDue_72 : decode cX5_whatIsDue 72 = .ok (.iload_n 3, 1) := by decide +kernel
theorem dX5_whatIsDue_73 : decode cX5_whatIsDue 73 = .ok (.iconst 4, 1) := by decide +kernel
theorem dX5_whatIsDue_74 : decode cX5_whatIsDue 74 = .ok (.if_icmp .ne 5, 3) := by decide +kernel
theorem dX5_whatIsDue_79 : decode cX5_whatIsDue 79 = .ok (.iload 4, 2) := by decide +kernel
theorem dX5_whatIsDue_81 : decode cX5_whatIsDue 81 = .ok (.iconst 4, 1) := by decide +kernel
theorem dX5_whatIsDue_82 : decode cX5_whatIsDue 82 = .ok (.if_icmp .ne 6, 3) := by decide +kernel
theorem dX5_whatIsDue_88 : decode cX5_whatIsDue 88 = .ok (.iload_n 3, 1) := by decide +kernel
theorem dX5_whatIsDue_89 : decode cX5_whatIsDue 89 = .ok (.iload 4, 2) := by decide +kernel
theorem dX5_whatIsDue_91 : decode cX5_whatIsDue 91 = .ok (.if_icmp .eq 6, 3) := by decide +kernel
theorem dX5_whatIsDue_97 : decode cX5_whatIsDue 97 = .ok (.iload_n 3, 1) := by decide +kernel
theorem dX5_whatIsDue_98 : decode cX5_whatIsDue 98 = .ok (.iconst 2, 1) := by decide +kernel
theorem dX5_whatIsDue_99 : decode cX5_whatIsDue 99 = .ok (.if_icmp .ne 5, 3) := by decide +kernel
theorem dX5_whatIsDue_104 : decode cX5_whatIsDue 104 = .ok (.iload_n 3, 1) := by decide +kernel
theorem dX5_whatIsDue_105 : decode cX5_whatIsDue 105 = .ok (.iconst 3, 1) := by decide +kernel
theorem dX5_whatIsDue_106 : decode cX5_whatIsDue 106 = .ok (.if_icmp .ne 7, 3) := by decide +kernel
theorem dX5_whatIsDue_113 : decode cX5_whatIsDue 113 = .ok (.iconst 0, 1) := by decide +kernel
theorem dX5_whatIsDue_114 : decode cX5_whatIsDue 114 = .ok (.ireturn, 1) := by decide +kernel
theorem dX5_whatIsDue_109 : decode cX5_whatIsDue 109 = .ok (.iconst 2, 1) := by decide +kernel
theorem dX5_whatIsDue_110 : decode cX5_whatIsDue 110 = .ok (.goto 4, 3) := by decide +kernel
theorem dX5_whatIsDue_102 : decode cX5_whatIsDue 102 = .ok (.iconst 1, 1) := by decide +kernel
theorem dX5_whatIsDue_103 : decode cX5_whatIsDue 103 = .ok (.ireturn, 1) := by decide +kernel
theorem dX5_whatIsDue_94 : decode cX5_whatIsDue 94 = .ok (.bipush 7, 2) := by decide +kernel
theorem dX5_whatIsDue_96 : decode cX5_whatIsDue 96 = .ok (.ireturn, 1) := by decide +kernel
theorem dX5_whatIsDue_51 : decode cX5_whatIsDue 51 = .ok (.aload_n 0, 1) := by decide +kernel
theorem dX5_whatIsDue_52 : decode cX5_whatIsDue 52 = .ok (.getfield 12, 3) := by decide +kernel
theorem dX5_whatIsDue_55 : decode cX5_whatIsDue 55 = .ok (.iload_n 1, 1) := by decide +kernel
theorem dX5_whatIsDue_56 : decode cX5_whatIsDue 56 = .ok (.invokevirtual 206, 3) := by decide +kernel
theorem dX5_whatIsDue_59 : decode cX5_whatIsDue 59 = .ok (.aload_n 0, 1) := by decide +kernel
theorem dX5_whatIsDue_60 : decode cX5_whatIsDue 60 = .ok (.getfield 12, 3) := by decide +kernel
theorem dX5_whatIsDue_63 : decode cX5_whatIsDue 63 = .ok (.iload_n 2, 1) := by decide +kernel
theorem dX5_whatIsDue_64 : decode cX5_whatIsDue 64 = .ok (.invokevirtual 206, 3) := by decide +kernel
theorem dX5_whatIsDue_67 : decode cX5_whatIsDue 67 = .ok (.if_icmp .gt 5, 3) := by decide +kernel
theorem dX5_whatIsDue_85 : decode cX5_whatIsDue 85 = .ok (.bipush 6, 2) := by decide +kernel
theorem dX5_whatIsDue_87 : decode cX5_whatIsDue 87 = .ok (.ireturn, 1) := by decide +kernel
theorem dX5_whatIsDue_70 : decode cX5_whatIsDue 70 = .ok (.iconst 4, 1) := by decide +kernel
theorem dX5_whatIsDue_71 : decode cX5_whatIsDue 71 = .ok (.ireturn, 1) := by decide +kernel
theorem dX5_whatIsDue_24 : decode cX5_whatIsDue 24 = .ok (.aload_n 0, 1) := by decide +kernel
theorem dX5_whatIsDue_25 : decode cX5_whatIsDue 25 = .ok (.getfield 12, 3) := by decide +kernel
theorem dX5_whatIsDue_28 : decode cX5_whatIsDue 28 = .ok (.iload_n 2, 1) := by decide +kernel
theorem dX5_whatIsDue_29 : decode cX5_whatIsDue 29 = .ok (.invokevirtual 206, 3) := by decide +kernel
theorem dX5_whatIsDue_32 : decode cX5_whatIsDue 32 = .ok (.aload_n 0, 1) := by decide +kernel
theorem dX5_whatIsDue_33 : decode cX5_whatIsDue 33 = .ok (.getfield 12, 3) := by decide +kernel
theorem dX5_whatIsDue_36 : decode cX5_whatIsDue 36 = .ok (.iload_n 1, 1) := by decide +kernel
theorem dX5_whatIsDue_37 : decode cX5_whatIsDue 37 = .ok (.invokevirtual 206, 3) := by decide +kernel
theorem dX5_whatIsDue_40 : decode cX5_whatIsDue 40 = .ok (.if_icmp .gt 5, 3) := by decide +kernel
theorem dX5_whatIsDue_77 : decode cX5_whatIsDue 77 = .ok (.iconst 5, 1) := by decide +kernel
theorem dX5_whatIsDue_78 : decode cX5_whatIsDue 78 = .ok (.ireturn, 1) := by decide +kernel
theorem dX5_whatIsDue_43 : decode cX5_whatIsDue 43 = .ok (.iconst 3, 1) := by decide +kernel
theorem dX5_whatIsDue_44 : decode cX5_whatIsDue 44 = .ok (.ireturn, 1) := by decide +kernel
theorem dX5_copied_0 : decode cX5_copied 0 = .ok (.iload_n 3, 1) := by decide +kernel
theorem dX5_copied_1 : decode cX5_copied 1 = .ok (.bipush 60, 2) := by decide +kernel
theorem dX5_copied_3 : decode cX5_copied 3 = .ok (.if_icmp .le 6, 3) := by decide +kernel
theorem dX5_copied_6 : decode cX5_copied 6 = .ok (.bipush (-6), 2) := by decide +kernel
theorem dX5_copied_8 : decode cX5_copied 8 = .ok (.ireturn, 1) := by decide +kernel
/-! ===== copying: what a copying does to TYPES and rows of bounds ===== -/
def CR (S u : cS) (T V K g T' V' X' Y' Z : Nat) : Prop := TY u T' V' V' X' Y' Z ∧ T ≤ T' ∧ V ≤ V' ∧ OC S u T ∧ (∀ j, j < 2 * V → kK u (35 + j) ≤ kK S (35 + j) + g * (V' - V)) ∧ ∀ j, j < 2 * V' → kK u (35 + j) ≤ K + V'
theorem CR.rf {S : cS} {T V K g X Y Z : Nat} (h : TY S T V V X Y Z) (hb : ∀ j, j < 2 * V → kK S (35 + j) ≤ K + V) : CR S S T V K g T V X Y Z := ⟨h, Nat.le_refl _, Nat.le_refl _, OC.rf, fun _ _ => Nat.le_add_right _ _, hb⟩
theorem CR.tr {S S1 u : cS} {T V K g T1 V1 X1 Y1 T2 V2 X2 Y2 Z Z2 : Nat} (h : CR S S1 T V K g T1 V1 X1 Y1 Z) (h' : CR S1 u T1 V1 K g T2 V2 X2 Y2 Z2) : CR S u T V K g T2 V2 X2 Y2 Z2 := by
  obtain ⟨a1, a2, a3, a4, a5, a6⟩ := h
  obtain ⟨b1, b2, b3, b4, b5, b6⟩ := h'
  refine ⟨b1, Nat.le_trans a2 b2, Nat.le_trans a3 b3, a4.tr b4 a2, fun j hj => ?_, b6⟩
  have h1 := a5 j hj
  have h2 := b5 j (by omega)
  have h3 : g * (V2 - V) = g * (V1 - V) + g * (V2 - V1) := by rw [← Nat.mul_add]; congr 1; omega
  omega
theorem CR.step {S S1 u : cS} {T V K g T1 V1 X1 Y1 T2 X2 Y2 Z Z2 : Nat} (h : CR S S1 T V K g T1 V1 X1 Y1 Z) (hT : TY u T2 V1 V1 X2 Y2 Z2) (hl : T1 ≤ T2) (ho : OC S1 u T1) (hb : ∀ j, j < 2 * V1 → kK u (35 + j) = kK S1 (35 + j)) : CR S u T V K g T2 V1 X2 Y2 Z2 := by
  obtain ⟨a1, a2, a3, a4, a5, a6⟩ := h
  exact ⟨hT, Nat.le_trans a2 hl, a3, a4.tr ho a2, fun j hj => by rw [hb j (by omega)]; exact a5 j hj, fun j hj => by rw [hb j hj]; exact a6 j hj⟩
theorem AW.bnd {rs is : List Nat} {S u : cS} {V : Nat} (a : AW rs is S u) (h : 35 ∉ rs) (hB : 2 * V ≤ kB S) : ∀ j, j < 2 * V → kK u (35 + j) = kK S (35 + j) := fun j hj => (a.2.1 (35 + j) (by omega) (by rw [Nat.min_eq_right (Nat.le_add_right 35 j)]; exact h)).2
theorem CR.aw {S S1 u : cS} {T V K g T1 V1 X1 Y1 Z : Nat} {rs is : List Nat} (h : CR S S1 T V K g T1 V1 X1 Y1 Z) (a : AW rs is S1 u) (h1 : ∀ r ∈ [6, 7, 8, 9, 10, 11, 12, 13, 14, 16, 17, 18], r ∉ rs) (h2 : 35 ∉ rs) : CR S u T V K g T1 V1 X1 Y1 Z := h.step (h.1.aw a h1) (Nat.le_refl _) (OC.aw a ⟨h1 6 (by decide), h1 8 (by decide)⟩) (a.bnd h2 h.1.2.1.2.2.1)
theorem CR.var {S u : cS} {T V K g X Y Z : Nat} (hb : ∀ j, j < 2 * V → kK S (35 + j) ≤ K + V) (hT : TY u (T + 1) (V + 1) (V + 1) X Y Z) (ho : OC S u T) (hg : g ≤ 1) (h1 : ∀ j, j < 2 * V → kK u (35 + j) ≤ kK S (35 + j) + g) (h2 : kK u (35 + 2 * V) = 0) (h3 : kK u (35 + (2 * V + 1)) = 0) : CR S u T V K g (T + 1) (V + 1) X Y Z := by
  refine ⟨hT, Nat.le_succ _, Nat.le_succ _, ho, fun j hj => ?_, fun j hj => ?_⟩
  · rw [show V + 1 - V = 1 by omega, Nat.mul_one]
    exact h1 j hj
  · rcases Nat.lt_or_ge j (2 * V) with h | h
    · have := hb j h
      have := h1 j h
      omega
    · rcases (by omega : j = 2 * V ∨ j = 2 * V + 1) with e | e
      · rw [e, h2]; omega
      · rw [e, h3]; omega
theorem CR.push {S S2 u : cS} {T V K g T2 V2 X2 Y Z r j0 n q : Nat} {gg : Nat → Int32} (h : CR S S2 T V K g T2 V2 X2 Y Z) (hu : u = uR S2 r (kK S2 r + 1) n q gg) (hr : r = 35 + j0) (h1 : 2 * V ≤ j0) (hk : kK S2 r + 1 ≤ K + V2) (hr4 : r < 400 := by omega) : CR S u T V K g T2 V2 X2 Y Z := by
  have a : AW [35] [] S2 u := by rw [hu]; exact AW.u (by rw [hr, Nat.min_eq_right (Nat.le_add_right 35 j0)]; exact List.mem_cons_self) hr4
  obtain ⟨a1, a2, a3, a4, a5, a6⟩ := h
  refine ⟨a1.aw a (by decide), a2, a3, a4.tr (OC.aw (T := T2) a (by decide)) a2, fun j hj => ?_, fun j hj => ?_⟩
  · rw [hu, uR_Ko (by omega)]
    exact a5 j hj
  · by_cases e : 35 + j = r
    · rw [e, hu, uR_K]
      exact hk
    · rw [hu, uR_Ko e]
      exact a6 j hj
def CX (S u : cS) (T V Y Z K g fu : Nat) (v : Int32) : Prop := ∃ T' V' X' Y', CR S u T V K g T' V' X' Y' Z ∧ Y ≤ Y' ∧ Y' ≤ Y + 6 * fu ∧ (¬ v < 0 → Y' = Y)
theorem CX.of {S u : cS} {T V Y Z K g fu fu' : Nat} {v : Int32} {T1 V1 X1 Y1 : Nat} {S1 : cS} (h1 : CR S S1 T V K g T1 V1 X1 Y1 Z) (h : CX S1 u T1 V1 Y1 Z K g fu v) (hy : Y ≤ Y1) (hf : Y1 + 6 * fu ≤ Y + 6 * fu') (hs : ¬ v < 0 → Y1 = Y) : CX S u T V Y Z K g fu' v := by
  obtain ⟨T', V', X', Y', a, b, c, d⟩ := h
  exact ⟨T', V', X', Y', h1.tr a, by omega, by omega, fun z => (d z).trans (hs z)⟩
theorem rget_at {f : Nat → Int32} {k j : Nat} (hj : j < k) (hk : k < 2 ^ 31) : rget f k (nI j) = f j := by
  unfold rget
  rw [if_neg (nI_n0 (by omega)), if_neg (fun h => by rw [i_le, nI_toInt hk, nI_toInt (by omega)] at h; omega), nI_clamp (by omega)]
theorem bnd_at {S : cS} {r T V sd j0 v0 : Nat} (h : (r = 15 ∧ rget (kF S 6) (kK S 6) (nI j0) ≠ 4) ∨ ∃ j w, j < T ∧ nI j0 = nI j ∧ kF S 6 j = 4 ∧ w < V ∧ kF S 8 j = nI w ∧ r = 35 + (2 * w + sd)) (h4 : kF S 6 j0 = 4) (h8 : kF S 8 j0 = nI v0) (hj : j0 < kK S 6) (hk : kK S 6 ≤ 602) (hT : T ≤ 602) (hv : v0 < 151) (hV : V ≤ 150) : r = 35 + (2 * v0 + sd) := by
  rcases h with h | ⟨j, w, a, b, -, h1, c, h2⟩
  · exact absurd ((rget_at hj (by omega)).trans h4) h.2
  · have e := (nI_eq (by omega) (by omega)).mp b
    subst e
    have e2 := (nI_eq (by omega) (by omega)).mp (c.symm.trans h8)
    rw [h2, e2]
set_option maxHeartbeats 4000000 in
set_option maxRecDepth 100000 in
/-- otherWay -/
theorem g_otherWay (l : Launch) (G : cG) (S : cS) (x : Int32) (hC : CL S) (Hs : Heap) : Met l yX5_otherWay (wC yX5_otherWay cX5_otherWay 1 (some .int)) (cRm S 0 0) (cPc G S Hs [.int x]) (cQi G S Hs (fun v u => AW [] [] S u ∧ (u = S ∧ v = if x = 2 then 2 else if x = 0 then 1 else 0))) (CC - PT S) (12 * (CC - PT S)) (cA G S Hs.size) := by
  refine Met.ofW (cc := cX5_otherWay) (maxL := 1) (ret := (some .int)) (by decide) rfl ?_
  intro p e s m args below meth c s₁ B hml hv
  obtain ⟨rfl, hsz, hP, hK, hD0, -⟩ := hv
  have hx := B.exec
  have hb := B.bytes
  have hr := B.returns
  have htu : ∀ w ∈ CU, w.before _ s = true := fun w h => atoms_spec (ws := (wC yX5_otherWay cX5_otherWay 1 (some .int))) B.pre w (List.mem_cons_of_mem _ h)
  have hown : s.vm.findClass RX5 = some m.cls := findClass_of_methodNamed B.named
  have hlocks := B.notSynchronized
  subst hsz
  have hD : cD (cA G S s.heap.size) G S := cD_self hD0
  have hl := lv_entry ([.int x]) (n := 1) (Nat.le_of_ble_eq_true rfl)
  rw [lg_entry_eq]
  generalize (lg_sl ([.int x]) ++ List.replicate (1 - (lg_sl ([.int x])).length) Slot.unset).toArray = ls at hl ⊢
  have hl : lv_has ls 1 [(0, .int x)] := hl
  obtain ⟨H, hHe⟩ : ∃ H : Heap, H = s.heap := ⟨_, rfl⟩
  rw [← hHe] at hP
  have hS : va_S (cA G S s.heap.size) s.heap H [] := by rw [hHe]; exact va_S.rf
  have hh : HS S S := HS.rf
  have hpp : PT S ≤ PT S := Nat.le_refl _
  have hB9 := hC.1
  refine W.heq hHe ?_
  refine c_ent (S := S) ?_
  refine lv_iload_n hx hb dX5_otherWay_0 rfl (lv_at hl 0 rfl) ?_
  refine lv_iconst (v := 2) hx hb dX5_otherWay_1 (by decide) ?_
  refine lv_icmp_ne (tgt := 7) hx hb dX5_otherWay_2 (by decide) (fun c_1 => ?_) (fun c_1 => ?_)
  · skip
    refine lv_iload_n hx hb dX5_otherWay_7 rfl (lv_at hl 0 rfl) ?_
    refine lv_if_ne (tgt := 15) hx hb dX5_otherWay_8 (by decide) (fun c_2 => ?_) (fun c_2 => ?_)
    · skip
      refine lv_iconst (v := 0) hx hb dX5_otherWay_15 (by decide) ?_
      exact c_iret (v := 0) hx hb hr hK hP hD hS hC hh hpp ⟨AW.rf, ⟨rfl, by rw [if_neg c_1, if_neg c_2]⟩⟩ dX5_otherWay_16 hlocks
    · skip
      refine lv_iconst (v := 1) hx hb dX5_otherWay_11 (by decide) ?_
      refine lv_goto (tgt := 16) hx hb dX5_otherWay_12 (by decide) ?_
      exact c_iret (v := 1) hx hb hr hK hP hD hS hC hh hpp ⟨AW.rf, ⟨rfl, by rw [if_neg c_1, if_pos c_2]⟩⟩ dX5_otherWay_16 hlocks
  · skip
    refine lv_iconst (v := 2) hx hb dX5_otherWay_5 (by decide) ?_
    exact c_iret (v := 2) hx hb hr hK hP hD hS hC hh hpp ⟨AW.rf, ⟨rfl, by rw [if_pos c_1]⟩⟩ dX5_otherWay_6 hlocks

set_option maxHeartbeats 4000000 in
set_option maxRecDepth 100000 in
/-- isTaken -/
theorem g_isTaken (l : Launch) (G : cG) (S : cS) (x : Int32) (y : Int32) (hC : CL S) (Hs : Heap) : Met l yX5_isTaken (wC yX5_isTaken cX5_isTaken 2 (some .boolean)) (cRm S 0 0) (cPc G S Hs [.int x, .int y]) (cQi G S Hs (fun v u => AW [] [] S u ∧ (u = S ∧ v = if y = 2 then 1 else if x = (if y = 0 then 0 else 1) then 1 else 0))) (CC - PT S) (12 * (CC - PT S)) (cA G S Hs.size) := by
  refine Met.ofW (cc := cX5_isTaken) (maxL := 2) (ret := (some .boolean)) (by decide) rfl ?_
  intro p e s m args below meth c s₁ B hml hv
  obtain ⟨rfl, hsz, hP, hK, hD0, -⟩ := hv
  have hx := B.exec
  have hb := B.bytes
  have hr := B.returns
  have htu : ∀ w ∈ CU, w.before _ s = true := fun w h => atoms_spec (ws := (wC yX5_isTaken cX5_isTaken 2 (some .boolean))) B.pre w (List.mem_cons_of_mem _ h)
  have hown : s.vm.findClass RX5 = some m.cls := findClass_of_methodNamed B.named
  have hlocks := B.notSynchronized
  subst hsz
  have hD : cD (cA G S s.heap.size) G S := cD_self hD0
  have hl := lv_entry ([.int x, .int y]) (n := 2) (Nat.le_of_ble_eq_true rfl)
  rw [lg_entry_eq]
  generalize (lg_sl ([.int x, .int y]) ++ List.replicate (2 - (lg_sl ([.int x, .int y])).length) Slot.unset).toArray = ls at hl ⊢
  have hl : lv_has ls 2 [(0, .int x), (1, .int y)] := hl
  obtain ⟨H, hHe⟩ : ∃ H : Heap, H = s.heap := ⟨_, rfl⟩
  rw [← hHe] at hP
  have hS : va_S (cA G S s.heap.size) s.heap H [] := by rw [hHe]; exact va_S.rf
  have hh : HS S S := HS.rf
  have hpp : PT S ≤ PT S := Nat.le_refl _
  have hB9 := hC.1
  refine W.heq hHe ?_
  refine c_ent (S := S) ?_
  refine lv_iload_n hx hb dX5_isTaken_0 rfl (lv_at hl 1 rfl) ?_
  refine lv_iconst (v := 2) hx hb dX5_isTaken_1 (by decide) ?_
  refine lv_icmp_eq (tgt := 18) hx hb dX5_isTaken_2 (by decide) (fun c_1 => ?_) (fun c_1 => ?_)
  · skip
    refine lv_iconst (v := 1) hx hb dX5_isTaken_18 (by decide) ?_
    refine lv_goto (tgt := 23) hx hb dX5_isTaken_19 (by decide) ?_
    exact c_zret (v := 1) hx hb hr hK hP hD hS hC hh hpp rfl ⟨AW.rf, ⟨rfl, by rw [if_pos c_1]⟩⟩ dX5_isTaken_23 hlocks
  · skip
    refine lv_iload_n hx hb dX5_isTaken_5 rfl (lv_at hl 0 rfl) ?_
    refine lv_iload_n hx hb dX5_isTaken_6 rfl (lv_at hl 1 rfl) ?_
    refine lv_if_ne (tgt := 14) hx hb dX5_isTaken_7 (by decide) (fun c_2 => ?_) (fun c_2 => ?_)
    · skip
      refine lv_iconst (v := 1) hx hb dX5_isTaken_14 (by decide) ?_
      refine lv_icmp_ne (tgt := 22) hx hb dX5_isTaken_15 (by decide) (fun c_3 => ?_) (fun c_3 => ?_)
      · skip
        refine lv_iconst (v := 0) hx hb dX5_isTaken_22 (by decide) ?_
        exact c_zret (v := 0) hx hb hr hK hP hD hS hC hh hpp rfl ⟨AW.rf, ⟨rfl, by rw [if_neg c_1, if_neg c_2, if_neg c_3]⟩⟩ dX5_isTaken_23 hlocks
      · skip
        refine lv_iconst (v := 1) hx hb dX5_isTaken_18 (by decide) ?_
        refine lv_goto (tgt := 23) hx hb dX5_isTaken_19 (by decide) ?_
        exact c_zret (v := 1) hx hb hr hK hP hD hS hC hh hpp rfl ⟨AW.rf, ⟨rfl, by rw [if_neg c_1, if_neg c_2, if_pos c_3]⟩⟩ dX5_isTaken_23 hlocks
    · skip
      refine lv_iconst (v := 0) hx hb dX5_isTaken_10 (by decide) ?_
      refine lv_goto (tgt := 15) hx hb dX5_isTaken_11 (by decide) ?_
      refine lv_icmp_ne (tgt := 22) hx hb dX5_isTaken_15 (by decide) (fun c_4 => ?_) (fun c_4 => ?_)
      · skip
        refine lv_iconst (v := 0) hx hb dX5_isTaken_22 (by decide) ?_
        exact c_zret (v := 0) hx hb hr hK hP hD hS hC hh hpp rfl ⟨AW.rf, ⟨rfl, by rw [if_neg c_1, if_pos c_2, if_neg c_4]⟩⟩ dX5_isTaken_23 hlocks
      · skip
        refine lv_iconst (v := 1) hx hb dX5_isTaken_18 (by decide) ?_
        refine lv_goto (tgt := 23) hx hb dX5_isTaken_19 (by decide) ?_
        exact c_zret (v := 1) hx hb hr hK hP hD hS hC hh hpp rfl ⟨AW.rf, ⟨rfl, by rw [if_neg c_1, if_pos c_2, if_pos c_4]⟩⟩ dX5_isTaken_23 hlocks

def cCopiedAt (fu : Nat) : Prop := ∀ (l : Launch) (G : cG) (S : cS) (T : Nat) (V : Nat) (X : Nat) (Y : Nat) (Z : Nat) (K : Nat) (g : Nat) (dp : Nat) (wy : Nat) (t : Int32) (hC : CL S) (hY : TY S T V V X Y Z) (hBD : ∀ j, j < 2 * V → kK S (35 + j) ≤ K + V) (hKK : K ≤ 1501) (h15 : kK S 15 = 0) (hg : (wy = 2 ∧ g = 0) ∨ (wy ≠ 2 ∧ g = 1)) (hwy : wy < 3) (hdp : dp + fu = 61) (hY2 : Y + 6 * fu ≤ 900) (hlev : 0 ≤ S.1 10) (hab : wy ≠ 2 → 0 ≤ S.1 9) (Hs : Heap), Met l yX5_copied (wC yX5_copied cX5_copied 12 (some .int)) (cRm S (fu + 4) (42 * fu + 140)) (cPc G S Hs [.ref (ga G 4), .int t, .int (nI wy), .int (nI dp)]) (cQi G S Hs (fun v u => AW [6, 7, 8, 9, 16, 14, 10, 11, 12, 13, 25, 26, 35] [] S u ∧ (CX S u T V Y Z K g fu v))) (CC - PT S) (12 * (CC - PT S)) (cA G S Hs.size)
