theorem dX5_otherWay_0 : decode cX5_otherWay 0 = .ok (.iload_n 0, 1) := by decide +kernel
theorem dX5_otherWay_1 : decode cX5_otherWay 1 = .ok (.iconst 2, 1) := by decide +kernel
theorem dX5_otherWay_2 : decode cX5_otherWay 2 = .ok (.if_icmp .ne 5, 3) := by decide +kernel
theorem dX5_otherWay_7 : decode cX5_otherWay 7 = .ok (.iload_n 0, 1) := by decide +kernel
theorem dX5_otherWay_8 : decode cX5_otherWay 8 = .ok (.ifCond .ne 7, 3) := by decide +kernel
theorem dX5_otherWay_15 : decode cX5_otherWay 15 = .ok (.iconst 0, 1) := by decide +kernel
theorem dX5_otherWay_16 : decode cX5_otherWay 16 = .ok (.ireturn, 1) := by decide +kernel
theorem dX5_otherWay_11 : decode cX5_otherWay 11 = .ok (.iconst 1, 1) := by decide +kernel
theorem dX5_otherWay_12 : decode cX5_otherWay 12 = .ok (.goto 4, 3) := by decide +kernel
theorem dX5_otherWay_5 : decode cX5_otherWay 5 = .ok (.iconst 2, 1) := by decide +kernel
theorem dX5_otherWay_6 : decode cX5_otherWay 6 = .ok (.ireturn, 1) := by decide +kernel
theorem dX5_isTaken_0 : decode cX5_isTaken 0 = .ok (.iload_n 1, 1) := by decide +kernel
theorem dX5_isTaken_1 : decode cX5_isTaken 1 = .ok (.iconst 2, 1) := by decide +kernel
theorem dX5_isTaken_2 : decode cX5_isTaken 2 = .ok (.if_icmp .eq 16, 3) := by decide +kernel
theorem dX5_isTaken_18 : decode cX5_isTaken 18 = .ok (.iconst 1, 1) := by decide +kernel
theorem dX5_isTaken_19 : decode cX5_isTaken 19 = .ok (.goto 4, 3) := by decide +kernel
theorem dX5_isTaken_23 : decode cX5_isTaken 23 = .ok (.ireturn, 1) := by decide +kernel
theorem dX5_isTaken_5 : decode cX5_isTaken 5 = .ok (.iload_n 0, 1) := by decide +kernel
theorem dX5_isTaken_6 : decode cX5_isTaken 6 = .ok (.iload_n 1, 1) := by decide +kernel
theorem dX5_isTaken_7 : decode cX5_isTaken 7 = .ok (.ifCond .ne 7, 3) := by decide +kernel
theorem dX5_isTaken_14 : decode cX5_isTaken 14 = .ok (.iconst 1, 1) := by decide +kernel
theorem dX5_isTaken_15 : decode cX5_isTaken 15 = .ok (.if_icmp .ne 7, 3) := by decide +kernel
theorem dX5_isTaken_22 : decode cX5_isTaken 22 = .ok (.iconst 0, 1) := by decide +kernel
theorem dX5_isTaken_10 : decode cX5_isTaken 10 = .ok (.iconst 0, 1) := by decide +kernel
theorem dX5_isTaken_11 : decode cX5_isTaken 11 = .ok (.goto 4, 3) := by decide +kernel
theorem dX5_startCopying_0 : decode cX5_startCopying 0 = .ok (.aload_n 0, 1) := by decide +kernel
theorem dX5_startCopying_1 : decode cX5_startCopying 1 = .ok (.dup, 1) := by decide +kernel
theorem dX5_startCopying_2 : decode cX5_startCopying 2 = .ok (.getfield 212, 3) := by decide +kernel
theorem dX5_startCopying_5 : decode cX5_startCopying 5 = .ok (.iconst 1, 1) := by decide +kernel
theorem dX5_startCopying_6 : decode cX5_startCopying 6 = .ok (.iadd, 1) := by decide +kernel
theorem dX5_startCopying_7 : decode cX5_startCopying 7 = .ok (.putfield 212, 3) := by decide +kernel
theorem dX5_startCopying_10 : decode cX5_startCopying 10 = .ok (.aload_n 0, 1) := by decide +kernel
theorem dX5_startCopying_11 : decode cX5_startCopying 11 = .ok (.iload_n 1, 1) := by decide +kernel
theorem dX5_startCopying_12 : decode cX5_startCopying 12 = .ok (.putfield 215, 3) := by decide +kernel
theorem dX5_startCopying_15 : decode cX5_startCopying 15 = .ok (.aload_n 0, 1) := by decide +kernel
theorem dX5_startCopying_16 : decode cX5_startCopying 16 = .ok (.iload_n 2, 1) := by decide +kernel
theorem dX5_startCopying_17 : decode cX5_startCopying 17 = .ok (.putfield 218, 3) := by decide +kernel
theorem dX5_startCopying_20 : decode cX5_startCopying 20 = .ok (.return_, 1) := by decide +kernel
theorem dX5_gives_0 : decode cX5_gives 0 = .ok (.aload_n 0, 1) := by decide +kernel
theorem dX5_gives_1 : decode cX5_gives 1 = .ok (.getfield 41, 3) := by decide +kernel
theorem dX5_gives_4 : decode cX5_gives 4 = .ok (.iload_n 1, 1) := by decide +kernel
theorem dX5_gives_5 : decode cX5_gives 5 = .ok (.iload_n 2, 1) := by decide +kernel
theorem dX5_gives_6 : decode cX5_gives 6 = .ok (.invokevirtual 134, 3) := by decide +kernel
theorem dX5_gives_9 : decode cX5_gives 9 = .ok (.aload_n 0, 1) := by decide +kernel
theorem dX5_gives_10 : decode cX5_gives 10 = .ok (.getfield 45, 3) := by decide +kernel
theorem dX5_gives_13 : decode cX5_gives 13 = .ok (.iload_n 1, 1) := by decide +kernel
theorem dX5_gives_14 : decode cX5_gives 14 = .ok (.iload_n 3, 1) := by decide +kernel
theorem dX5_gives_15 : decode cX5_gives 15 = .ok (.invokevirtual 134, 3) := by decide +kernel
theorem dX5_gives_18 : decode cX5_gives 18 = .ok (.return_, 1) := by decide +kernel
theorem dX5_whatIsDue_0 : decode cX5_whatIsDue 0 = .ok (.aload_n 0, 1) := by decide +kernel
theorem dX5_whatIsDue_1 : decode cX5_whatIsDue 1 = .ok (.getfield 12, 3) := by decide +kernel
theorem dX5_whatIsDue_4 : decode cX5_whatIsDue 4 = .ok (.iload_n 1, 1) := by decide +kernel
theorem dX5_whatIsDue_5 : decode cX5_whatIsDue 5 = .ok (.invokevirtual 209, 3) := by decide +kernel
theorem dX5_whatIsDue_8 : decode cX5_whatIsDue 8 = .ok (.istore_n 3, 1) := by decide +kernel
theorem dX5_whatIsDue_9 : decode cX5_whatIsDue 9 = .ok (.aload_n 0, 1) := by decide +kernel
theorem dX5_whatIsDue_10 : decode cX5_whatIsDue 10 = .ok (.getfield 12, 3) := by decide +kernel
theorem dX5_whatIsDue_13 : decode cX5_whatIsDue 13 = .ok (.iload_n 2, 1) := by decide +kernel
theorem dX5_whatIsDue_14 : decode cX5_whatIsDue 14 = .ok (.invokevirtual 209, 3) := by decide +kernel
theorem dX5_whatIsDue_17 : decode cX5_whatIsDue 17 = .ok (.istore 4, 2) := by decide +kernel
theorem dX5_whatIsDue_19 : decode cX5_whatIsDue 19 = .ok (.iload_n 3, 1) := by decide +kernel
theorem dX5_whatIsDue_20 : decode cX5_whatIsDue 20 = .ok (.iconst 4, 1) := by decide +kernel
theorem dX5_whatIsDue_21 : decode cX5_whatIsDue 21 = .ok (.if_icmp .ne 24, 3) := by decide +kernel
theorem dX5_whatIsDue_45 : decode cX5_whatIsDue 45 = .ok (.iload 4, 2) := by decide +kernel
theorem dX5_whatIsDue_47 : decode cX5_whatIsDue 47 = .ok (.iconst 4, 1) := by decide +kernel
theorem dX5_whatIsDue_48 : decode cX5_whatIsDue 48 = .ok (.if_icmp .ne 24, 3) := by decide +kernel
theorem dX5_whatIsDue_72 : decode cX5_whatIsDue 72 = .ok (.iload_n 3, 1) := by decide +kernel
theorem dX5_whatIsDue_73 : decode cX5_whatIsDue 73 = .ok (.iconst 4, 1) := by decide +kernel
theorem dX5_whatIsDue_74 : decode cX5_whatIsDue 74 = .ok (.if_icmp .ne 5, 3) := by decide +kernel
theorem dX5_whatIsDue_79 : decode cX5_whatIsDue 79 = .ok (.iload 4, 2) := by decide +kernel
theorem dX5_whatIsDue_81 : decode cX5_whatIsDue 81 = .ok (.iconst 4, 1) := by decide +kernel
theorem dX5_whatIsDue_82 : decode cX5_whatIsDue 82 = .ok (.if_icmp .ne 6, 3) := by decide +kernel
theorem dX5_whatIsDue_88 : decode cX5_whatIsDue 88 = .ok (.iload_n 3, 1) := by decide +kernel
theorem dX5_whatIsDue_89 : decode cX5_whatIsDue 89 = .ok (.iload 4, 2) := by decide +kernel
theorem dX5_whatIsDue_91 : decode cX5_whatIsDue 91 = .ok (.if_icmp .eq 6, 3) := by decide +kernel
theorem dX5_whatIsDue_97 : decode cX5_whatIsDue 97 = .ok (.iload_n 3, 1) := by decide +kernel
theorem dX5_whatIsDue_98 : decode cX5_whatIsDue 98 = .ok (.iconst 2, 1) := by decide +kernel
theorem dX5_whatIsDue_99 : decode cX5_whatIsDue 99 = .ok (.if_icmp .ne 5, 3) := by decide +kernel
theorem dX5_whatIsDue_104 : decode cX5_whatIsDue 104 = .ok (.iload_n 3, 1) := by decide +kernel
theorem dX5_whatIsDue_105 : decode cX5_whatIsDue 105 = .ok (.iconst 3, 1) := by decide +kernel
theorem dX5_whatIsDue_106 : decode cX5_whatIsDue 106 = .ok (.if_icmp .ne 7, 3) := by decide +kernel
theorem dX5_whatIsDue_113 : decode cX5_whatIsDue 113 = .ok (.iconst 0, 1) := by decide +kernel
theorem dX5_whatIsDue_114 : decode cX5_whatIsDue 114 = .ok (.ireturn, 1) := by decide +kernel
theorem dX5_whatIsDue_109 : decode cX5_whatIsDue 109 = .ok (.iconst 2, 1) := by decide +kernel
theorem dX5_whatIsDue_110 : decode cX5_whatIsDue 110 = .ok (.goto 4, 3) := by decide +kernel
theorem dX5_whatIsDue_102 : decode cX5_whatIsDue 102 = .ok (.iconst 1, 1) := by decide +kernel
theorem dX5_whatIsDue_103 : decode cX5_whatIsDue 103 = .ok (.ireturn, 1) := by decide +kernel
theorem dX5_whatIsDue_94 : decode cX5_whatIsDue 94 = .ok (.bipush 7, 2) := by decide +kernel
theorem dX5_whatIsDue_96 : decode cX5_whatIsDue 96 = .ok (.ireturn, 1) := by decide +kernel
theorem dX5_whatIsDue_51 : decode cX5_whatIsDue 51 = .ok (.aload_n 0, 1) := by decide +kernel
theorem dX5_whatIsDue_52 : decode cX5_whatIsDue 52 = .ok (.getfield 12, 3) := by decide +kernel
theorem dX5_whatIsDue_55 : decode cX5_whatIsDue 55 = .ok (.iload_n 1, 1) := by decide +kernel
theorem dX5_whatIsDue_56 : decode cX5_whatIsDue 56 = .ok (.invokevirtual 206, 3) := by decide +kernel
theorem dX5_whatIsDue_59 : decode cX5_whatIsDue 59 = .ok (.aload_n 0, 1) := by decide +kernel
theorem dX5_whatIsDue_60 : decode cX5_whatIsDue 60 = .ok (.getfield 12, 3) := by decide +kernel
theorem dX5_whatIsDue_63 : decode cX5_whatIsDue 63 = .ok (.iload_n 2, 1) := by decide +kernel
theorem dX5_whatIsDue_64 : decode cX5_whatIsDue 64 = .ok (.invokevirtual 206, 3) := by decide +kernel
theorem dX5_whatIsDue_67 : decode cX5_whatIsDue 67 = .ok (.if_icmp .gt 5, 3) := by decide +kernel
theorem dX5_whatIsDue_85 : decode cX5_whatIsDue 85 = .ok (.bipush 6, 2) := by decide +kernel
theorem dX5_whatIsDue_87 : decode cX5_whatIsDue 87 = .ok (.ireturn, 1) := by decide +kernel
theorem dX5_whatIsDue_70 : decode cX5_whatIsDue 70 = .ok (.iconst 4, 1) := by decide +kernel
theorem dX5_whatIsDue_71 : decode cX5_whatIsDue 71 = .ok (.ireturn, 1) := by decide +kernel
theorem dX5_whatIsDue_24 : decode cX5_whatIsDue 24 = .ok (.aload_n 0, 1) := by decide +kernel
theorem dX5_whatIsDue_25 : decode cX5_whatIsDue 25 = .ok (.getfield 12, 3) := by decide +kernel
theorem dX5_whatIsDue_28 : decode cX5_whatIsDue 28 = .ok (.iload_n 2, 1) := by decide +kernel
theorem dX5_whatIsDue_29 : decode cX5_whatIsDue 29 = .ok (.invokevirtual 206, 3) := by decide +kernel
theorem dX5_whatIsDue_32 : decode cX5_whatIsDue 32 = .ok (.aload_n 0, 1) := by decide +kernel
theorem dX5_whatIsDue_33 : decode cX5_whatIsDue 33 = .ok (.getfield 12, 3) := by decide +kernel
theorem dX5_whatIsDue_36 : decode cX5_whatIsDue 36 = .ok (.iload_n 1, 1) := by decide +kernel
theorem dX5_whatIsDue_37 : decode cX5_whatIsDue 37 = .ok (.invokevirtual 206, 3) := by decide +kernel
theorem dX5_whatIsDue_40 : decode cX5_whatIsDue 40 = .ok (.if_icmp .gt 5, 3) := by decide +kernel
theorem dX5_whatIsDue_77 : decode cX5_whatIsDue 77 = .ok (.iconst 5, 1) := by decide +kernel
theorem dX5_whatIsDue_78 : decode cX5_whatIsDue 78 = .ok (.ireturn, 1) := by decide +kernel
theorem dX5_whatIsDue_43 : decode cX5_whatIsDue 43 = .ok (.iconst 3, 1) := by decide +kernel
theorem dX5_whatIsDue_44 : decode cX5_whatIsDue 44 = .ok (.ireturn, 1) := by decide +kernel
theorem dX5_copied_0 : decode cX5_copied 0 = .ok (.iload_n 3, 1) := by decide +kernel
theorem dX5_copied_1 : decode cX5_copied 1 = .ok (.bipush 60, 2) := by decide +kernel
theorem dX5_copied_3 : decode cX5_copied 3 = .ok (.if_icmp .le 6, 3) := by decide +kernel
theorem dX5_copied_6 : decode cX5_copied 6 = .ok (.bipush (-6), 2) := by decide +kernel
theorem dX5_copied_8 : decode cX5_copied 8 = .ok (.ireturn, 1) := by decide +kernel
/-! ===== copying: what a copying does to TYPES and rows of bounds ===== -/
def CR (S u : cS) (T V K g T' V' X' Y' Z : Nat) : Prop := TY u T' V' V' X' Y' Z ∧ T ≤ T' ∧ V ≤ V' ∧ OC S u T ∧ (∀ j, j < 2 * V → kK u (35 + j) ≤ kK S (35 + j) + g * (V' - V)) ∧ ∀ j, j < 2 * V' → kK u (35 + j) ≤ K + V'
theorem CR.rf {S : cS} {T V K g X Y Z : Nat} (h : TY S T V V X Y Z) (hb : ∀ j, j < 2 * V → kK S (35 + j) ≤ K + V) : CR S S T V K g T V X Y Z := ⟨h, Nat.le_refl _, Nat.le_refl _, OC.rf, fun _ _ => Nat.le_add_right _ _, hb⟩
theorem CR.tr {S S1 u : cS} {T V K g T1 V1 X1 Y1 T2 V2 X2 Y2 Z Z2 : Nat} (h : CR S S1 T V K g T1 V1 X1 Y1 Z) (h' : CR S1 u T1 V1 K g T2 V2 X2 Y2 Z2) : CR S u T V K g T2 V2 X2 Y2 Z2 := by
  obtain ⟨a1, a2, a3, a4, a5, a6⟩ := h
  obtain ⟨b1, b2, b3, b4, b5, b6⟩ := h'
  refine ⟨b1, Nat.le_trans a2 b2, Nat.le_trans a3 b3, a4.tr b4 a2, fun j hj => ?_, b6⟩
  have h1 := a5 j hj
  have h2 := b5 j (by omega)
  have h3 : g * (V2 - V) = g * (V1 - V) + g * (V2 - V1) := by rw [← Nat.mul_add]; congr 1; omega
  omega
theorem CR.step {S S1 u : cS} {T V K g T1 V1 X1 Y1 T2 X2 Y2 Z Z2 : Nat} (h : CR S S1 T V K g T1 V1 X1 Y1 Z) (hT : TY u T2 V1 V1 X2 Y2 Z2) (hl : T1 ≤ T2) (ho : OC S1 u T1) (hb : ∀ j, j < 2 * V1 → kK u (35 + j) = kK S1 (35 + j)) : CR S u T V K g T2 V1 X2 Y2 Z2 := by
  obtain ⟨a1, a2, a3, a4, a5, a6⟩ := h
  exact ⟨hT, Nat.le_trans a2 hl, a3, a4.tr ho a2, fun j hj => by rw [hb j (by omega)]; exact a5 j hj, fun j hj => by rw [hb j hj]; exact a6 j hj⟩
theorem AW.bnd {rs is : List Nat} {S u : cS} {V : Nat} (a : AW rs is S u) (h : 35 ∉ rs) (hB : 2 * V ≤ kB S) : ∀ j, j < 2 * V → kK u (35 + j) = kK S (35 + j) := fun j hj => (a.2.1 (35 + j) (by omega) (by rw [Nat.min_eq_right (Nat.le_add_right 35 j)]; exact h)).2
theorem CR.aw {S S1 u : cS} {T V K g T1 V1 X1 Y1 Z : Nat} {rs is : List Nat} (h : CR S S1 T V K g T1 V1 X1 Y1 Z) (a : AW rs is S1 u) (h1 : ∀ r ∈ [6, 7, 8, 9, 10, 11, 12, 13, 14, 16, 17, 18], r ∉ rs) (h2 : 35 ∉ rs) : CR S u T V K g T1 V1 X1 Y1 Z := h.step (h.1.aw a h1) (Nat.le_refl _) (OC.aw a ⟨h1 6 (by decide), h1 8 (by decide)⟩) (a.bnd h2 h.1.2.1.2.2.1)
theorem CR.var {S u : cS} {T V K g X Y Z : Nat} (hb : ∀ j, j < 2 * V → kK S (35 + j) ≤ K + V) (hT : TY u (T + 1) (V + 1) (V + 1) X Y Z) (ho : OC S u T) (hg : g ≤ 1) (h1 : ∀ j, j < 2 * V → kK u (35 + j) ≤ kK S (35 + j) + g) (h2 : kK u (35 + 2 * V) = 0) (h3 : kK u (35 + (2 * V + 1)) = 0) : CR S u T V K g (T + 1) (V + 1) X Y Z := by
  refine ⟨hT, Nat.le_succ _, Nat.le_succ _, ho, fun j hj => ?_, fun j hj => ?_⟩
  · rw [show V + 1 - V = 1 by omega, Nat.mul_one]
    exact h1 j hj
  · rcases Nat.lt_or_ge j (2 * V) with h | h
    · have := hb j h
      have := h1 j h
      omega
    · rcases (by omega : j = 2 * V ∨ j = 2 * V + 1) with e | e
      · rw [e, h2]; omega
      · rw [e, h3]; omega
theorem CR.push {S S2 u : cS} {T V K g T2 V2 X2 Y Z r j0 n q : Nat} {gg : Nat → Int32} (h : CR S S2 T V K g T2 V2 X2 Y Z) (hu : u = uR S2 r (kK S2 r + 1) n q gg) (hr : r = 35 + j0) (h1 : 2 * V ≤ j0) (hk : kK S2 r + 1 ≤ K + V2) (hr4 : r < 400 := by omega) : CR S u T V K g T2 V2 X2 Y Z := by
  have a : AW [35] [] S2 u := by rw [hu]; exact AW.u (by rw [hr, Nat.min_eq_right (Nat.le_add_right 35 j0)]; exact List.mem_cons_self) hr4
  obtain ⟨a1, a2, a3, a4, a5, a6⟩ := h
  refine ⟨a1.aw a (by decide), a2, a3, a4.tr (OC.aw (T := T2) a (by decide)) a2, fun j hj => ?_, fun j hj => ?_⟩
  · rw [hu, uR_Ko (by omega)]
    exact a5 j hj
  · by_cases e : 35 + j = r
    · rw [e, hu, uR_K]
      exact hk
    · rw [hu, uR_Ko e]
      exact a6 j hj
def CX (S u : cS) (T V Y Z K g fu : Nat) (v : Int32) : Prop := ∃ T' V' X' Y', CR S u T V K g T' V' X' Y' Z ∧ Y ≤ Y' ∧ Y' ≤ Y + 6 * fu ∧ (¬ v < 0 → Y' = Y)
theorem CX.of {S u : cS} {T V Y Z K g fu fu' : Nat} {v : Int32} {T1 V1 X1 Y1 : Nat} {S1 : cS} (h1 : CR S S1 T V K g T1 V1 X1 Y1 Z) (h : CX S1 u T1 V1 Y1 Z K g fu v) (hy : Y ≤ Y1) (hf : Y1 + 6 * fu ≤ Y + 6 * fu') (hs : ¬ v < 0 → Y1 = Y) : CX S u T V Y Z K g fu' v := by
  obtain ⟨T', V', X', Y', a, b, c, d⟩ := h
  exact ⟨T', V', X', Y', h1.tr a, by omega, by omega, fun z => (d z).trans (hs z)⟩
theorem bnd_of {S : cS} {r T V sd : Nat} {t : Int32} (h : (r = 15 ∧ rget (kF S 6) (kK S 6) t ≠ 4) ∨ ∃ j w, j < T ∧ t = nI j ∧ kF S 6 j = 4 ∧ w < V ∧ kF S 8 j = nI w ∧ r = 35 + (2 * w + sd)) (h4 : rget (kF S 6) (kK S 6) t = 4) : ∃ w, w < V ∧ r = 35 + (2 * w + sd) := by
  rcases h with h | ⟨j, w, -, -, -, h1, -, h2⟩
  · exact absurd h4 h.2
  · exact ⟨w, h1, h2⟩
theorem rget_at {f : Nat → Int32} {k j : Nat} (hj : j < k) (hk : k < 2 ^ 31) : rget f k (nI j) = f j := by
  unfold rget
  rw [if_neg (nI_n0 (by omega)), if_neg (fun h => by rw [i_le, nI_toInt hk, nI_toInt (by omega)] at h; omega), nI_clamp (by omega)]
theorem bnd_at {S : cS} {r T V sd j0 v0 : Nat} (h : (r = 15 ∧ rget (kF S 6) (kK S 6) (nI j0) ≠ 4) ∨ ∃ j w, j < T ∧ nI j0 = nI j ∧ kF S 6 j = 4 ∧ w < V ∧ kF S 8 j = nI w ∧ r = 35 + (2 * w + sd)) (h4 : kF S 6 j0 = 4) (h8 : kF S 8 j0 = nI v0) (hj : j0 < kK S 6) (hk : kK S 6 ≤ 602) (hT : T ≤ 602) (hv : v0 < 151) (hV : V ≤ 150) : r = 35 + (2 * v0 + sd) := by
  rcases h with h | ⟨j, w, a, b, -, h1, c, h2⟩
  · exact absurd ((rget_at hj (by omega)).trans h4) h.2
  · have e := (nI_eq (by omega) (by omega)).mp b
    subst e
    have e2 := (nI_eq (by omega) (by omega)).mp (c.symm.trans h8)
    rw [h2, e2]
/-- a VARIABLE: neither FUNCTION nor RECORD, above a LEVEL that is not below 0 -/
theorem is_var {S : cS} {T V VP X Y Z : Nat} {t l ab : Int32} (h : TY S T V VP X Y Z) (hl : l = rget (kF S 7) (kK S 7) t) (hgt : ab < l) (hab : 0 ≤ ab) (n2 : ¬ rget (kF S 6) (kK S 6) t = 2) (n3 : ¬ rget (kF S 6) (kK S 6) t = 3) : rget (kF S 6) (kK S 6) t = 4 := by
  have h0 : (0 : Int32) < l := Int32.lt_of_le_of_lt hab hgt
  have hne : l ≠ -9 := fun e => by rw [e] at h0; exact absurd h0 (by decide)
  have k7 := h.1.2.1
  have k6 := h.1.1
  have t6 := h.2.1.1
  obtain ⟨j, q1, q2, q3⟩ := rget_in hl.symm hne (by omega)
  have e6 : rget (kF S 6) (kK S 6) t = kF S 6 j := by rw [q2]; exact rget_at (by omega) (by omega)
  rw [e6] at n2 n3 ⊢
  rcases h.2.2.2.2 j (by omega) with z | z | z | z
  · exact absurd z n2
  · exact absurd z n3
  · exact z
  · rw [q3] at z
    exact absurd h0 (Int32.not_lt.mpr z)

set_option maxHeartbeats 4000000 in
set_option maxRecDepth 100000 in
/-- otherWay -/
theorem g_otherWay (l : Launch) (G : cG) (S : cS) (x : Int32) (hC : CL S) (Hs : Heap) : Met l yX5_otherWay (wC yX5_otherWay cX5_otherWay 1 (some .int)) (cRm S 0 0) (cPc G S Hs [.int x]) (cQi G S Hs (fun v u => AW [] [] S u ∧ (u = S ∧ v = if x = 2 then 2 else if x = 0 then 1 else 0))) (CC - PT S) (12 * (CC - PT S)) (cA G S Hs.size) := by
  refine Met.ofW (cc := cX5_otherWay) (maxL := 1) (ret := (some .int)) (by decide) rfl ?_
  intro p e s m args below meth c s₁ B hml hv
  obtain ⟨rfl, hsz, hP, hK, hD0, -⟩ := hv
  have hx := B.exec
  have hb := B.bytes
  have hr := B.returns
  have htu : ∀ w ∈ CU, w.before _ s = true := fun w h => atoms_spec (ws := (wC yX5_otherWay cX5_otherWay 1 (some .int))) B.pre w (List.mem_cons_of_mem _ h)
  have hown : s.vm.findClass RX5 = some m.cls := findClass_of_methodNamed B.named
  have hlocks := B.notSynchronized
  subst hsz
  have hD : cD (cA G S s.heap.size) G S := cD_self hD0
  have hl := lv_entry ([.int x]) (n := 1) (Nat.le_of_ble_eq_true rfl)
  rw [lg_entry_eq]
  generalize (lg_sl ([.int x]) ++ List.replicate (1 - (lg_sl ([.int x])).length) Slot.unset).toArray = ls at hl ⊢
  have hl : lv_has ls 1 [(0, .int x)] := hl
  obtain ⟨H, hHe⟩ : ∃ H : Heap, H = s.heap := ⟨_, rfl⟩
  rw [← hHe] at hP
  have hS : va_S (cA G S s.heap.size) s.heap H [] := by rw [hHe]; exact va_S.rf
  have hh : HS S S := HS.rf
  have hpp : PT S ≤ PT S := Nat.le_refl _
  have hB9 := hC.1
  refine W.heq hHe ?_
  refine c_ent (S := S) ?_
  refine lv_iload_n hx hb dX5_otherWay_0 rfl (lv_at hl 0 rfl) ?_
  refine lv_iconst (v := 2) hx hb dX5_otherWay_1 (by decide) ?_
  refine lv_icmp_ne (tgt := 7) hx hb dX5_otherWay_2 (by decide) (fun c_1 => ?_) (fun c_1 => ?_)
  · skip
    refine lv_iload_n hx hb dX5_otherWay_7 rfl (lv_at hl 0 rfl) ?_
    refine lv_if_ne (tgt := 15) hx hb dX5_otherWay_8 (by decide) (fun c_2 => ?_) (fun c_2 => ?_)
    · skip
      refine lv_iconst (v := 0) hx hb dX5_otherWay_15 (by decide) ?_
      exact c_iret (v := 0) hx hb hr hK hP hD hS hC hh hpp ⟨AW.rf, ⟨rfl, by rw [if_neg c_1, if_neg c_2]⟩⟩ dX5_otherWay_16 hlocks
    · skip
      refine lv_iconst (v := 1) hx hb dX5_otherWay_11 (by decide) ?_
      refine lv_goto (tgt := 16) hx hb dX5_otherWay_12 (by decide) ?_
      exact c_iret (v := 1) hx hb hr hK hP hD hS hC hh hpp ⟨AW.rf, ⟨rfl, by rw [if_neg c_1, if_pos c_2]⟩⟩ dX5_otherWay_16 hlocks
  · skip
    refine lv_iconst (v := 2) hx hb dX5_otherWay_5 (by decide) ?_
    exact c_iret (v := 2) hx hb hr hK hP hD hS hC hh hpp ⟨AW.rf, ⟨rfl, by rw [if_pos c_1]⟩⟩ dX5_otherWay_6 hlocks

set_option maxHeartbeats 4000000 in
set_option maxRecDepth 100000 in
/-- isTaken -/
theorem g_isTaken (l : Launch) (G : cG) (S : cS) (x : Int32) (y : Int32) (hC : CL S) (Hs : Heap) : Met l yX5_isTaken (wC yX5_isTaken cX5_isTaken 2 (some .boolean)) (cRm S 0 0) (cPc G S Hs [.int x, .int y]) (cQi G S Hs (fun v u => AW [] [] S u ∧ (u = S ∧ v = if y = 2 then 1 else if x = (if y = 0 then 0 else 1) then 1 else 0))) (CC - PT S) (12 * (CC - PT S)) (cA G S Hs.size) := by
  refine Met.ofW (cc := cX5_isTaken) (maxL := 2) (ret := (some .boolean)) (by decide) rfl ?_
  intro p e s m args below meth c s₁ B hml hv
  obtain ⟨rfl, hsz, hP, hK, hD0, -⟩ := hv
  have hx := B.exec
  have hb := B.bytes
  have hr := B.returns
  have htu : ∀ w ∈ CU, w.before _ s = true := fun w h => atoms_spec (ws := (wC yX5_isTaken cX5_isTaken 2 (some .boolean))) B.pre w (List.mem_cons_of_mem _ h)
  have hown : s.vm.findClass RX5 = some m.cls := findClass_of_methodNamed B.named
  have hlocks := B.notSynchronized
  subst hsz
  have hD : cD (cA G S s.heap.size) G S := cD_self hD0
  have hl := lv_entry ([.int x, .int y]) (n := 2) (Nat.le_of_ble_eq_true rfl)
  rw [lg_entry_eq]
  generalize (lg_sl ([.int x, .int y]) ++ List.replicate (2 - (lg_sl ([.int x, .int y])).length) Slot.unset).toArray = ls at hl ⊢
  have hl : lv_has ls 2 [(0, .int x), (1, .int y)] := hl
  obtain ⟨H, hHe⟩ : ∃ H : Heap, H = s.heap := ⟨_, rfl⟩
  rw [← hHe] at hP
  have hS : va_S (cA G S s.heap.size) s.heap H [] := by rw [hHe]; exact va_S.rf
  have hh : HS S S := HS.rf
  have hpp : PT S ≤ PT S := Nat.le_refl _
  have hB9 := hC.1
  refine W.heq hHe ?_
  refine c_ent (S := S) ?_
  refine lv_iload_n hx hb dX5_isTaken_0 rfl (lv_at hl 1 rfl) ?_
  refine lv_iconst (v := 2) hx hb dX5_isTaken_1 (by decide) ?_
  refine lv_icmp_eq (tgt := 18) hx hb dX5_isTaken_2 (by decide) (fun c_1 => ?_) (fun c_1 => ?_)
  · skip
    refine lv_iconst (v := 1) hx hb dX5_isTaken_18 (by decide) ?_
    refine lv_goto (tgt := 23) hx hb dX5_isTaken_19 (by decide) ?_
    exact c_zret (v := 1) hx hb hr hK hP hD hS hC hh hpp rfl ⟨AW.rf, ⟨rfl, by rw [if_pos c_1]⟩⟩ dX5_isTaken_23 hlocks
  · skip
    refine lv_iload_n hx hb dX5_isTaken_5 rfl (lv_at hl 0 rfl) ?_
    refine lv_iload_n hx hb dX5_isTaken_6 rfl (lv_at hl 1 rfl) ?_
    refine lv_if_ne (tgt := 14) hx hb dX5_isTaken_7 (by decide) (fun c_2 => ?_) (fun c_2 => ?_)
    · skip
      refine lv_iconst (v := 1) hx hb dX5_isTaken_14 (by decide) ?_
      refine lv_icmp_ne (tgt := 22) hx hb dX5_isTaken_15 (by decide) (fun c_3 => ?_) (fun c_3 => ?_)
      · skip
        refine lv_iconst (v := 0) hx hb dX5_isTaken_22 (by decide) ?_
        exact c_zret (v := 0) hx hb hr hK hP hD hS hC hh hpp rfl ⟨AW.rf, ⟨rfl, by rw [if_neg c_1, if_neg c_2, if_neg c_3]⟩⟩ dX5_isTaken_23 hlocks
      · skip
        refine lv_iconst (v := 1) hx hb dX5_isTaken_18 (by decide) ?_
        refine lv_goto (tgt := 23) hx hb dX5_isTaken_19 (by decide) ?_
        exact c_zret (v := 1) hx hb hr hK hP hD hS hC hh hpp rfl ⟨AW.rf, ⟨rfl, by rw [if_neg c_1, if_neg c_2, if_pos c_3]⟩⟩ dX5_isTaken_23 hlocks
    · skip
      refine lv_iconst (v := 0) hx hb dX5_isTaken_10 (by decide) ?_
      refine lv_goto (tgt := 15) hx hb dX5_isTaken_11 (by decide) ?_
      refine lv_icmp_ne (tgt := 22) hx hb dX5_isTaken_15 (by decide) (fun c_4 => ?_) (fun c_4 => ?_)
      · skip
        refine lv_iconst (v := 0) hx hb dX5_isTaken_22 (by decide) ?_
        exact c_zret (v := 0) hx hb hr hK hP hD hS hC hh hpp rfl ⟨AW.rf, ⟨rfl, by rw [if_neg c_1, if_pos c_2, if_neg c_4]⟩⟩ dX5_isTaken_23 hlocks
      · skip
        refine lv_iconst (v := 1) hx hb dX5_isTaken_18 (by decide) ?_
        refine lv_goto (tgt := 23) hx hb dX5_isTaken_19 (by decide) ?_
        exact c_zret (v := 1) hx hb hr hK hP hD hS hC hh hpp rfl ⟨AW.rf, ⟨rfl, by rw [if_neg c_1, if_pos c_2, if_pos c_4]⟩⟩ dX5_isTaken_23 hlocks

set_option maxHeartbeats 4000000 in
set_option maxRecDepth 100000 in
/-- startCopying -/
theorem g_startCopying (l : Launch) (G : cG) (S : cS) (x : Int32) (y : Int32) (hC : CL S) (Hs : Heap) : Met l yX5_startCopying (wC yX5_startCopying cX5_startCopying 3 none) (cRm S 0 0) (cPc G S Hs [.ref (ga G 4), .int x, .int y]) (cQv G S Hs (fun u => AW [] [8, 9, 10] S u ∧ (u.1 9 = x ∧ u.1 10 = y))) (CC - PT S) (12 * (CC - PT S)) (cA G S Hs.size) := by
  refine Met.ofW (cc := cX5_startCopying) (maxL := 3) (ret := none) (by decide) rfl ?_
  intro p e s m args below meth c s₁ B hml hv
  obtain ⟨rfl, hsz, hP, hK, hD0, -⟩ := hv
  have hx := B.exec
  have hb := B.bytes
  have hr := B.returns
  have htu : ∀ w ∈ CU, w.before _ s = true := fun w h => atoms_spec (ws := (wC yX5_startCopying cX5_startCopying 3 none)) B.pre w (List.mem_cons_of_mem _ h)
  have hown : s.vm.findClass RX5 = some m.cls := findClass_of_methodNamed B.named
  have hlocks := B.notSynchronized
  subst hsz
  have hD : cD (cA G S s.heap.size) G S := cD_self hD0
  have hl := lv_entry ([.ref (ga G 4), .int x, .int y]) (n := 3) (Nat.le_of_ble_eq_true rfl)
  rw [lg_entry_eq]
  generalize (lg_sl ([.ref (ga G 4), .int x, .int y]) ++ List.replicate (3 - (lg_sl ([.ref (ga G 4), .int x, .int y])).length) Slot.unset).toArray = ls at hl ⊢
  have hl : lv_has ls 3 [(0, .ref (ga G 4)), (1, .int x), (2, .int y)] := hl
  obtain ⟨H, hHe⟩ : ∃ H : Heap, H = s.heap := ⟨_, rfl⟩
  rw [← hHe] at hP
  have hS : va_S (cA G S s.heap.size) s.heap H [] := by rw [hHe]; exact va_S.rf
  have hh : HS S S := HS.rf
  have hpp : PT S ≤ PT S := Nat.le_refl _
  have hB9 := hC.1
  refine W.heq hHe ?_
  refine c_ent (S := S) ?_
  refine lv_aload_n hx hb dX5_startCopying_0 rfl (lv_at hl 0 rfl) ?_
  refine lv_dup hx hb dX5_startCopying_1 rfl ?_
  refine va_get (D := gD G) (ci := 5) (v := .int (S.1 8)) (C := RX5) (T := TX5) (N := 15) hx hb htu cu_in5 hown hK hP 4 cw_4 rfl 8 (by decide) (htu _ C_306) (fun _ h9 => h9) rfl dX5_startCopying_2 ?_
  refine lv_iconst (v := 1) hx hb dX5_startCopying_5 (by decide) ?_
  refine lv_iadd hx hb dX5_startCopying_6 ?_
  refine lv_topi (fun f_1 ef_1 => ?_)
  refine c_put4_8 (x := f_1) hx hb htu hown hK hP hD hS (htu _ C_306) dX5_startCopying_7 (fun H locs hP hD hS => ?_)
  have S_2h : HS S (cO S 8 f_1) := hh
  have S_2c : CL (cO S 8 f_1) := hC
  have S_2p : PT S ≤ PT (cO S 8 f_1) := hpp
  refine c_eq (S1 := S) (S2 := cO S 8 f_1) rfl ?_
  have S_2w : AW [] [8, 9, 10] S (cO S 8 f_1) := (AW.o AW.rf (by decide))
  have hh := S_2h
  have hC := S_2c
  have hpp := S_2p
  refine lv_aload_n hx hb dX5_startCopying_10 rfl (lv_at hl 0 rfl) ?_
  refine lv_iload_n hx hb dX5_startCopying_11 rfl (lv_at hl 1 rfl) ?_
  refine c_put4_9 (x := x) hx hb htu hown hK hP hD hS (htu _ C_307) dX5_startCopying_12 (fun H locs hP hD hS => ?_)
  have S_3h : HS S (cO (cO S 8 f_1) 9 x) := hh
  have S_3c : CL (cO (cO S 8 f_1) 9 x) := hC
  have S_3p : PT S ≤ PT (cO (cO S 8 f_1) 9 x) := hpp
  refine c_eq (S1 := (cO S 8 f_1)) (S2 := cO (cO S 8 f_1) 9 x) rfl ?_
  have S_3w : AW [] [8, 9, 10] S (cO (cO S 8 f_1) 9 x) := (AW.o S_2w (by decide))
  have hh := S_3h
  have hC := S_3c
  have hpp := S_3p
  refine lv_aload_n hx hb dX5_startCopying_15 rfl (lv_at hl 0 rfl) ?_
  refine lv_iload_n hx hb dX5_startCopying_16 rfl (lv_at hl 2 rfl) ?_
  refine c_put4_10 (x := y) hx hb htu hown hK hP hD hS (htu _ C_308) dX5_startCopying_17 (fun H locs hP hD hS => ?_)
  have S_4h : HS S (cO (cO (cO S 8 f_1) 9 x) 10 y) := hh
  have S_4c : CL (cO (cO (cO S 8 f_1) 9 x) 10 y) := hC
  have S_4p : PT S ≤ PT (cO (cO (cO S 8 f_1) 9 x) 10 y) := hpp
  refine c_eq (S1 := (cO (cO S 8 f_1) 9 x)) (S2 := cO (cO (cO S 8 f_1) 9 x) 10 y) rfl ?_
  have S_4w : AW [] [8, 9, 10] S (cO (cO (cO S 8 f_1) 9 x) 10 y) := (AW.o S_3w (by decide))
  have hh := S_4h
  have hC := S_4c
  have hpp := S_4p
  exact c_vret hx hb hr hK hP hD hS hC hh hpp ⟨S_4w, ⟨((cO_n (show 9 ≠ 10 by decide)).trans cO_s), cO_s⟩⟩ dX5_startCopying_20 hlocks

set_option maxHeartbeats 4000000 in
set_option maxRecDepth 100000 in
/-- gives -/
theorem g_gives (l : Launch) (G : cG) (S : cS) (x : Int32) (y : Int32) (w : Int32) (hC : CL S) (Hs : Heap) : Met l yX5_gives (wC yX5_gives cX5_gives 4 none) (cRm S 1 22) (cPc G S Hs [.ref (ga G 4), .int x, .int y, .int w]) (cQv G S Hs (fun u => AW [23, 24] [] S u ∧ (True))) (CC - PT S) (12 * (CC - PT S)) (cA G S Hs.size) := by
  refine Met.ofW (cc := cX5_gives) (maxL := 4) (ret := none) (by decide) rfl ?_
  intro p e s m args below meth c s₁ B hml hv
  obtain ⟨rfl, hsz, hP, hK, hD0, -⟩ := hv
  have hx := B.exec
  have hb := B.bytes
  have hr := B.returns
  have htu : ∀ w ∈ CU, w.before _ s = true := fun w h => atoms_spec (ws := (wC yX5_gives cX5_gives 4 none)) B.pre w (List.mem_cons_of_mem _ h)
  have hown : s.vm.findClass RX5 = some m.cls := findClass_of_methodNamed B.named
  have hlocks := B.notSynchronized
  subst hsz
  have hD : cD (cA G S s.heap.size) G S := cD_self hD0
  have hl := lv_entry ([.ref (ga G 4), .int x, .int y, .int w]) (n := 4) (Nat.le_of_ble_eq_true rfl)
  rw [lg_entry_eq]
  generalize (lg_sl ([.ref (ga G 4), .int x, .int y, .int w]) ++ List.replicate (4 - (lg_sl ([.ref (ga G 4), .int x, .int y, .int w])).length) Slot.unset).toArray = ls at hl ⊢
  have hl : lv_has ls 4 [(0, .ref (ga G 4)), (1, .int x), (2, .int y), (3, .int w)] := hl
  obtain ⟨H, hHe⟩ : ∃ H : Heap, H = s.heap := ⟨_, rfl⟩
  rw [← hHe] at hP
  have hS : va_S (cA G S s.heap.size) s.heap H [] := by rw [hHe]; exact va_S.rf
  have hh : HS S S := HS.rf
  have hpp : PT S ≤ PT S := Nat.le_refl _
  have hB9 := hC.1
  refine W.heq hHe ?_
  refine c_ent (S := S) ?_
  refine lv_aload_n hx hb dX5_gives_0 rfl (lv_at hl 0 rfl) ?_
  refine va_get (D := gD G) (ci := 5) (v := .ref (kH S 23)) (C := RX5) (T := TX5) (N := 15) hx hb htu cu_in5 hown hK hP 4 cw_4 rfl 4 (by decide) (htu _ C_53) (fun _ h9 => h9) rfl dX5_gives_1 ?_
  refine lv_iload_n hx hb dX5_gives_4 rfl (lv_at hl 1 rfl) ?_
  refine lv_iload_n hx hb dX5_gives_5 rfl (lv_at hl 2 rfl) ?_
  have hC0 := hC
  refine c_cv (c_runV (As := [.int x, .int y]) (rest := []) (q0 := (2 * 23 + 13)) (ci := 0) ⟨hx, hb, hml, hown, htu⟩ (c_setA l G S 23 (lt35 (by decide)) hC (kH S 23) rfl x y H) (cwV 2 htu hU_X5_134 rfl rfl rfl (by decide +kernel) ⟨Nat.le_of_ble_eq_true rfl, Nat.le_of_ble_eq_true rfl⟩) hP hK hD hC hpp (c_hd rfl (cw_row (lt35 (by decide)))) rfl rfl hl.1 rfl (lv_room (Nat.le_of_ble_eq_true rfl)) dX5_gives_6) hS hD hh hpp (fun S_2 H locs hw_3 hP hD hS hC hh hs_4 hpp => ?_)
  try dsimp only at hw_3
  have aw_5 : AW [23] [] S S_2 := (by rw [hw_3]; exact AW.u (by decide))
  have aw_5t : AW [23, 24] [] S S_2 := AW.rf.tr (aw_5.mono (by decide) (by decide))
  refine lv_aload_n hx hb dX5_gives_9 rfl (lv_at hl 0 rfl) ?_
  refine va_get (D := gD G) (ci := 5) (v := .ref (kH S 24)) (C := RX5) (T := TX5) (N := 15) hx hb htu cu_in5 hown hK hP 4 cw_4 rfl 5 (by decide) (htu _ C_54) (fun _ h9 => h9) (c_hv (hh.2 24 (lt35 (by decide)))) dX5_gives_10 ?_
  refine lv_iload_n hx hb dX5_gives_13 rfl (lv_at hl 1 rfl) ?_
  refine lv_iload_n hx hb dX5_gives_14 rfl (lv_at hl 3 rfl) ?_
  have hC0 := hC
  refine c_cv (c_runV (As := [.int x, .int w]) (rest := []) (q0 := (2 * 24 + 13)) (ci := 0) ⟨hx, hb, hml, hown, htu⟩ (c_setA l G S_2 24 (lt35 (by decide)) hC (kH S 24) (hh.2 24 (lt35 (by decide))) x w H) (cwV 2 htu hU_X5_134 rfl rfl rfl (by decide +kernel) ⟨Nat.le_of_ble_eq_true rfl, Nat.le_of_ble_eq_true rfl⟩) hP hK hD hC hpp (c_hd (hh.2 24 (lt35 (by decide))) (cw_row (lt35 (by decide)))) rfl rfl hl.1 rfl (lv_room (Nat.le_of_ble_eq_true rfl)) dX5_gives_15) hS hD hh hpp (fun S_7 H locs hw_8 hP hD hS hC hh hs_9 hpp => ?_)
  try dsimp only at hw_8
  have aw_10 : AW [24] [] S_2 S_7 := (by rw [hw_8]; exact AW.u (by decide))
  have aw_10t : AW [23, 24] [] S S_7 := aw_5t.tr (aw_10.mono (by decide) (by decide))
  exact c_vret hx hb hr hK hP hD hS hC hh hpp ⟨aw_10t, trivial⟩ dX5_gives_18 hlocks

set_option maxHeartbeats 4000000 in
set_option maxRecDepth 100000 in
/-- whatIsDue -/
theorem g_whatIsDue (l : Launch) (G : cG) (S : cS) (x : Int32) (y : Int32) (hC : CL S) (Hs : Heap) : Met l yX5_whatIsDue (wC yX5_whatIsDue cX5_whatIsDue 5 (some .int)) (cRm S 2 42) (cPc G S Hs [.ref (ga G 4), .int x, .int y]) (cQi G S Hs (fun v u => AW [] [] S u ∧ (u = S ∧ ((v = 0 ∨ v = 1 ∨ v = 2 ∨ v = 7) ∨ (v = 3 ∧ rget (kF S 6) (kK S 6) x = 4) ∨ (v = 4 ∧ rget (kF S 6) (kK S 6) y = 4) ∨ (v = 5 ∧ rget (kF S 6) (kK S 6) x = 4) ∨ (v = 6 ∧ rget (kF S 6) (kK S 6) y = 4))))) (CC - PT S) (12 * (CC - PT S)) (cA G S Hs.size) := by
  refine Met.ofW (cc := cX5_whatIsDue) (maxL := 5) (ret := (some .int)) (by decide) rfl ?_
  intro p e s m args below meth c s₁ B hml hv
  obtain ⟨rfl, hsz, hP, hK, hD0, -⟩ := hv
  have hx := B.exec
  have hb := B.bytes
  have hr := B.returns
  have htu : ∀ w ∈ CU, w.before _ s = true := fun w h => atoms_spec (ws := (wC yX5_whatIsDue cX5_whatIsDue 5 (some .int))) B.pre w (List.mem_cons_of_mem _ h)
  have hown : s.vm.findClass RX5 = some m.cls := findClass_of_methodNamed B.named
  have hlocks := B.notSynchronized
  subst hsz
  have hD : cD (cA G S s.heap.size) G S := cD_self hD0
  have hl := lv_entry ([.ref (ga G 4), .int x, .int y]) (n := 5) (Nat.le_of_ble_eq_true rfl)
  rw [lg_entry_eq]
  generalize (lg_sl ([.ref (ga G 4), .int x, .int y]) ++ List.replicate (5 - (lg_sl ([.ref (ga G 4), .int x, .int y])).length) Slot.unset).toArray = ls at hl ⊢
  have hl : lv_has ls 5 [(0, .ref (ga G 4)), (1, .int x), (2, .int y)] := hl
  obtain ⟨H, hHe⟩ : ∃ H : Heap, H = s.heap := ⟨_, rfl⟩
  rw [← hHe] at hP
  have hS : va_S (cA G S s.heap.size) s.heap H [] := by rw [hHe]; exact va_S.rf
  have hh : HS S S := HS.rf
  have hpp : PT S ≤ PT S := Nat.le_refl _
  have hB9 := hC.1
  refine W.heq hHe ?_
  refine c_ent (S := S) ?_
  refine lv_aload_n hx hb dX5_whatIsDue_0 rfl (lv_at hl 0 rfl) ?_
  refine va_get (D := gD G) (ci := 5) (v := .ref (ga G 2)) (C := RX5) (T := TX5) (N := 15) hx hb htu cu_in5 hown hK hP 4 cw_4 rfl 1 (by decide) (htu _ C_45) (fun _ h9 => h9) rfl dX5_whatIsDue_1 ?_
  refine lv_iload_n hx hb dX5_whatIsDue_4 rfl (lv_at hl 1 rfl) ?_
  have hC0 := hC
  refine c_ci (c_runV (As := [.int x]) (rest := []) (q0 := 2) (ci := 4) ⟨hx, hb, hml, hown, htu⟩ (y_sortOf l G S x hC  H) (cwV 1 htu hU_X5_209 rfl rfl rfl (by decide +kernel) ⟨Nat.le_of_ble_eq_true rfl, Nat.le_of_ble_eq_true rfl⟩) hP hK hD hC hpp cw_2 rfl rfl hl.1 rfl (lv_room (Nat.le_of_ble_eq_true rfl)) dX5_whatIsDue_5) hS hD hh hpp (fun r_1 S_2 H locs hw_3 hP hD hS hC hh hs_4 hpp => ?_)
  obtain ⟨-, hu9, hw_3⟩ := hw_3
  have hu9 := hu9.symm
  subst hu9
  refine lv_istore_n (lv' := [(3, .int r_1), (0, .ref (ga G 4)), (1, .int x), (2, .int y)]) hx hb dX5_whatIsDue_8 rfl hl (by decide) rfl (fun ls hl => ?_)
  refine lv_aload_n hx hb dX5_whatIsDue_9 rfl (lv_at hl 1 rfl) ?_
  refine va_get (D := gD G) (ci := 5) (v := .ref (ga G 2)) (C := RX5) (T := TX5) (N := 15) hx hb htu cu_in5 hown hK hP 4 cw_4 rfl 1 (by decide) (htu _ C_45) (fun _ h9 => h9) rfl dX5_whatIsDue_10 ?_
  refine lv_iload_n hx hb dX5_whatIsDue_13 rfl (lv_at hl 3 rfl) ?_
  have hC0 := hC
  refine c_ci (c_runV (As := [.int y]) (rest := []) (q0 := 2) (ci := 4) ⟨hx, hb, hml, hown, htu⟩ (y_sortOf l G S y hC  H) (cwV 1 htu hU_X5_209 rfl rfl rfl (by decide +kernel) ⟨Nat.le_of_ble_eq_true rfl, Nat.le_of_ble_eq_true rfl⟩) hP hK hD hC hpp cw_2 rfl rfl hl.1 rfl (lv_room (Nat.le_of_ble_eq_true rfl)) dX5_whatIsDue_14) hS hD hh hpp (fun r_5 S_6 H locs hw_7 hP hD hS hC hh hs_8 hpp => ?_)
  obtain ⟨-, hu9, hw_7⟩ := hw_7
  have hu9 := hu9.symm
  subst hu9
  refine lv_istore (lv' := [(4, .int r_5), (3, .int r_1), (0, .ref (ga G 4)), (1, .int x), (2, .int y)]) hx hb dX5_whatIsDue_17 hl (by decide) rfl (fun ls hl => ?_)
  refine lv_iload_n hx hb dX5_whatIsDue_19 rfl (lv_at hl 1 rfl) ?_
  refine lv_iconst (v := 4) hx hb dX5_whatIsDue_20 (by decide) ?_
  refine lv_icmp_ne (tgt := 45) hx hb dX5_whatIsDue_21 (by decide) (fun c_9 => ?_) (fun c_9 => ?_)
  · skip
    refine lv_iload hx hb dX5_whatIsDue_45 (lv_at hl 0 rfl) ?_
    refine lv_iconst (v := 4) hx hb dX5_whatIsDue_47 (by decide) ?_
    refine lv_icmp_ne (tgt := 72) hx hb dX5_whatIsDue_48 (by decide) (fun c_10 => ?_) (fun c_10 => ?_)
    · skip
      refine lv_iload_n hx hb dX5_whatIsDue_72 rfl (lv_at hl 1 rfl) ?_
      refine lv_iconst (v := 4) hx hb dX5_whatIsDue_73 (by decide) ?_
      refine lv_icmp_ne (tgt := 79) hx hb dX5_whatIsDue_74 (by decide) (fun c_11 => ?_) (fun c_11 => absurd c_11 c_9)
      refine lv_iload hx hb dX5_whatIsDue_79 (lv_at hl 0 rfl) ?_
      refine lv_iconst (v := 4) hx hb dX5_whatIsDue_81 (by decide) ?_
      refine lv_icmp_ne (tgt := 88) hx hb dX5_whatIsDue_82 (by decide) (fun c_12 => ?_) (fun c_12 => absurd c_12 c_10)
      refine lv_iload_n hx hb dX5_whatIsDue_88 rfl (lv_at hl 1 rfl) ?_
      refine lv_iload hx hb dX5_whatIsDue_89 (lv_at hl 0 rfl) ?_
      refine lv_icmp_eq (tgt := 97) hx hb dX5_whatIsDue_91 (by decide) (fun c_13 => ?_) (fun c_13 => ?_)
      · skip
        refine lv_iload_n hx hb dX5_whatIsDue_97 rfl (lv_at hl 1 rfl) ?_
        refine lv_iconst (v := 2) hx hb dX5_whatIsDue_98 (by decide) ?_
        refine lv_icmp_ne (tgt := 104) hx hb dX5_whatIsDue_99 (by decide) (fun c_14 => ?_) (fun c_14 => ?_)
        · skip
          refine lv_iload_n hx hb dX5_whatIsDue_104 rfl (lv_at hl 1 rfl) ?_
          refine lv_iconst (v := 3) hx hb dX5_whatIsDue_105 (by decide) ?_
          refine lv_icmp_ne (tgt := 113) hx hb dX5_whatIsDue_106 (by decide) (fun c_15 => ?_) (fun c_15 => ?_)
          · skip
            refine lv_iconst (v := 0) hx hb dX5_whatIsDue_113 (by decide) ?_
            exact c_iret (v := 0) hx hb hr hK hP hD hS hC hh hpp ⟨AW.rf, ⟨rfl, Or.inl (Or.inl rfl)⟩⟩ dX5_whatIsDue_114 hlocks
          · skip
            refine lv_iconst (v := 2) hx hb dX5_whatIsDue_109 (by decide) ?_
            refine lv_goto (tgt := 114) hx hb dX5_whatIsDue_110 (by decide) ?_
            exact c_iret (v := 2) hx hb hr hK hP hD hS hC hh hpp ⟨AW.rf, ⟨rfl, Or.inl (Or.inr (Or.inr (Or.inl rfl)))⟩⟩ dX5_whatIsDue_114 hlocks
        · skip
          refine lv_iconst (v := 1) hx hb dX5_whatIsDue_102 (by decide) ?_
          exact c_iret (v := 1) hx hb hr hK hP hD hS hC hh hpp ⟨AW.rf, ⟨rfl, Or.inl (Or.inr (Or.inl rfl))⟩⟩ dX5_whatIsDue_103 hlocks
      · skip
        refine lv_bipush (v := 7) hx hb dX5_whatIsDue_94 (by decide) ?_
        exact c_iret (v := 7) hx hb hr hK hP hD hS hC hh hpp ⟨AW.rf, ⟨rfl, Or.inl (Or.inr (Or.inr (Or.inr rfl)))⟩⟩ dX5_whatIsDue_96 hlocks
    · skip
      refine lv_aload_n hx hb dX5_whatIsDue_51 rfl (lv_at hl 2 rfl) ?_
      refine va_get (D := gD G) (ci := 5) (v := .ref (ga G 2)) (C := RX5) (T := TX5) (N := 15) hx hb htu cu_in5 hown hK hP 4 cw_4 rfl 1 (by decide) (htu _ C_45) (fun _ h9 => h9) rfl dX5_whatIsDue_52 ?_
      refine lv_iload_n hx hb dX5_whatIsDue_55 rfl (lv_at hl 3 rfl) ?_
      have hC0 := hC
      refine c_ci (c_runV (As := [.int x]) (rest := []) (q0 := 2) (ci := 4) ⟨hx, hb, hml, hown, htu⟩ (y_levelOf l G S x hC  H) (cwV 1 htu hU_X5_206 rfl rfl rfl (by decide +kernel) ⟨Nat.le_of_ble_eq_true rfl, Nat.le_of_ble_eq_true rfl⟩) hP hK hD hC hpp cw_2 rfl rfl hl.1 rfl (lv_room (Nat.le_of_ble_eq_true rfl)) dX5_whatIsDue_56) hS hD hh hpp (fun r_16 S_17 H locs hw_18 hP hD hS hC hh hs_19 hpp => ?_)
      obtain ⟨-, hu9, hw_18⟩ := hw_18
      have hu9 := hu9.symm
      subst hu9
      refine lv_aload_n hx hb dX5_whatIsDue_59 rfl (lv_at hl 2 rfl) ?_
      refine va_get (D := gD G) (ci := 5) (v := .ref (ga G 2)) (C := RX5) (T := TX5) (N := 15) hx hb htu cu_in5 hown hK hP 4 cw_4 rfl 1 (by decide) (htu _ C_45) (fun _ h9 => h9) rfl dX5_whatIsDue_60 ?_
      refine lv_iload_n hx hb dX5_whatIsDue_63 rfl (lv_at hl 4 rfl) ?_
      have hC0 := hC
      refine c_ci (c_runV (As := [.int y]) (rest := [.int r_16]) (q0 := 2) (ci := 4) ⟨hx, hb, hml, hown, htu⟩ (y_levelOf l G S y hC  H) (cwV 1 htu hU_X5_206 rfl rfl rfl (by decide +kernel) ⟨Nat.le_of_ble_eq_true rfl, Nat.le_of_ble_eq_true rfl⟩) hP hK hD hC hpp cw_2 rfl rfl hl.1 rfl (lv_room (Nat.le_of_ble_eq_true rfl)) dX5_whatIsDue_64) hS hD hh hpp (fun r_20 S_21 H locs hw_22 hP hD hS hC hh hs_23 hpp => ?_)
      obtain ⟨-, hu9, hw_22⟩ := hw_22
      have hu9 := hu9.symm
      subst hu9
      refine lv_icmp_gt (tgt := 72) hx hb dX5_whatIsDue_67 (by decide) (fun c_24 => ?_) (fun c_24 => ?_)
      · skip
        refine lv_iload_n hx hb dX5_whatIsDue_72 rfl (lv_at hl 1 rfl) ?_
        refine lv_iconst (v := 4) hx hb dX5_whatIsDue_73 (by decide) ?_
        refine lv_icmp_ne (tgt := 79) hx hb dX5_whatIsDue_74 (by decide) (fun c_25 => ?_) (fun c_25 => absurd c_25 c_9)
        refine lv_iload hx hb dX5_whatIsDue_79 (lv_at hl 0 rfl) ?_
        refine lv_iconst (v := 4) hx hb dX5_whatIsDue_81 (by decide) ?_
        refine lv_icmp_ne (tgt := 88) hx hb dX5_whatIsDue_82 (by decide) (fun c_26 => absurd c_10 c_26) (fun c_26 => ?_)
        refine lv_bipush (v := 6) hx hb dX5_whatIsDue_85 (by decide) ?_
        exact c_iret (v := 6) hx hb hr hK hP hD hS hC hh hpp ⟨AW.rf, ⟨rfl, Or.inr (Or.inr (Or.inr (Or.inr ⟨rfl, (hw_7.symm.trans c_10)⟩)))⟩⟩ dX5_whatIsDue_87 hlocks
      · skip
        refine lv_iconst (v := 4) hx hb dX5_whatIsDue_70 (by decide) ?_
        exact c_iret (v := 4) hx hb hr hK hP hD hS hC hh hpp ⟨AW.rf, ⟨rfl, Or.inr (Or.inr (Or.inl ⟨rfl, (hw_7.symm.trans c_10)⟩))⟩⟩ dX5_whatIsDue_71 hlocks
  · skip
    refine lv_aload_n hx hb dX5_whatIsDue_24 rfl (lv_at hl 2 rfl) ?_
    refine va_get (D := gD G) (ci := 5) (v := .ref (ga G 2)) (C := RX5) (T := TX5) (N := 15) hx hb htu cu_in5 hown hK hP 4 cw_4 rfl 1 (by decide) (htu _ C_45) (fun _ h9 => h9) rfl dX5_whatIsDue_25 ?_
    refine lv_iload_n hx hb dX5_whatIsDue_28 rfl (lv_at hl 4 rfl) ?_
    have hC0 := hC
    refine c_ci (c_runV (As := [.int y]) (rest := []) (q0 := 2) (ci := 4) ⟨hx, hb, hml, hown, htu⟩ (y_levelOf l G S y hC  H) (cwV 1 htu hU_X5_206 rfl rfl rfl (by decide +kernel) ⟨Nat.le_of_ble_eq_true rfl, Nat.le_of_ble_eq_true rfl⟩) hP hK hD hC hpp cw_2 rfl rfl hl.1 rfl (lv_room (Nat.le_of_ble_eq_true rfl)) dX5_whatIsDue_29) hS hD hh hpp (fun r_27 S_28 H locs hw_29 hP hD hS hC hh hs_30 hpp => ?_)
    obtain ⟨-, hu9, hw_29⟩ := hw_29
    have hu9 := hu9.symm
    subst hu9
    refine lv_aload_n hx hb dX5_whatIsDue_32 rfl (lv_at hl 2 rfl) ?_
    refine va_get (D := gD G) (ci := 5) (v := .ref (ga G 2)) (C := RX5) (T := TX5) (N := 15) hx hb htu cu_in5 hown hK hP 4 cw_4 rfl 1 (by decide) (htu _ C_45) (fun _ h9 => h9) rfl dX5_whatIsDue_33 ?_
    refine lv_iload_n hx hb dX5_whatIsDue_36 rfl (lv_at hl 3 rfl) ?_
    have hC0 := hC
    refine c_ci (c_runV (As := [.int x]) (rest := [.int r_27]) (q0 := 2) (ci := 4) ⟨hx, hb, hml, hown, htu⟩ (y_levelOf l G S x hC  H) (cwV 1 htu hU_X5_206 rfl rfl rfl (by decide +kernel) ⟨Nat.le_of_ble_eq_true rfl, Nat.le_of_ble_eq_true rfl⟩) hP hK hD hC hpp cw_2 rfl rfl hl.1 rfl (lv_room (Nat.le_of_ble_eq_true rfl)) dX5_whatIsDue_37) hS hD hh hpp (fun r_31 S_32 H locs hw_33 hP hD hS hC hh hs_34 hpp => ?_)
    obtain ⟨-, hu9, hw_33⟩ := hw_33
    have hu9 := hu9.symm
    subst hu9
    refine lv_icmp_gt (tgt := 45) hx hb dX5_whatIsDue_40 (by decide) (fun c_35 => ?_) (fun c_35 => ?_)
    · skip
      refine lv_iload hx hb dX5_whatIsDue_45 (lv_at hl 0 rfl) ?_
      refine lv_iconst (v := 4) hx hb dX5_whatIsDue_47 (by decide) ?_
      refine lv_icmp_ne (tgt := 72) hx hb dX5_whatIsDue_48 (by decide) (fun c_36 => ?_) (fun c_36 => ?_)
      · skip
        refine lv_iload_n hx hb dX5_whatIsDue_72 rfl (lv_at hl 1 rfl) ?_
        refine lv_iconst (v := 4) hx hb dX5_whatIsDue_73 (by decide) ?_
        refine lv_icmp_ne (tgt := 79) hx hb dX5_whatIsDue_74 (by decide) (fun c_37 => absurd c_9 c_37) (fun c_37 => ?_)
        refine lv_iconst (v := 5) hx hb dX5_whatIsDue_77 (by decide) ?_
        exact c_iret (v := 5) hx hb hr hK hP hD hS hC hh hpp ⟨AW.rf, ⟨rfl, Or.inr (Or.inr (Or.inr (Or.inl ⟨rfl, (hw_3.symm.trans c_9)⟩)))⟩⟩ dX5_whatIsDue_78 hlocks
      · skip
        refine lv_aload_n hx hb dX5_whatIsDue_51 rfl (lv_at hl 2 rfl) ?_
        refine va_get (D := gD G) (ci := 5) (v := .ref (ga G 2)) (C := RX5) (T := TX5) (N := 15) hx hb htu cu_in5 hown hK hP 4 cw_4 rfl 1 (by decide) (htu _ C_45) (fun _ h9 => h9) rfl dX5_whatIsDue_52 ?_
        refine lv_iload_n hx hb dX5_whatIsDue_55 rfl (lv_at hl 3 rfl) ?_
        have hC0 := hC
        refine c_ci (c_runV (As := [.int x]) (rest := []) (q0 := 2) (ci := 4) ⟨hx, hb, hml, hown, htu⟩ (y_levelOf l G S x hC  H) (cwV 1 htu hU_X5_206 rfl rfl rfl (by decide +kernel) ⟨Nat.le_of_ble_eq_true rfl, Nat.le_of_ble_eq_true rfl⟩) hP hK hD hC hpp cw_2 rfl rfl hl.1 rfl (lv_room (Nat.le_of_ble_eq_true rfl)) dX5_whatIsDue_56) hS hD hh hpp (fun r_38 S_39 H locs hw_40 hP hD hS hC hh hs_41 hpp => ?_)
        obtain ⟨-, hu9, hw_40⟩ := hw_40
        have hu9 := hu9.symm
        subst hu9
        refine lv_aload_n hx hb dX5_whatIsDue_59 rfl (lv_at hl 2 rfl) ?_
        refine va_get (D := gD G) (ci := 5) (v := .ref (ga G 2)) (C := RX5) (T := TX5) (N := 15) hx hb htu cu_in5 hown hK hP 4 cw_4 rfl 1 (by decide) (htu _ C_45) (fun _ h9 => h9) rfl dX5_whatIsDue_60 ?_
        refine lv_iload_n hx hb dX5_whatIsDue_63 rfl (lv_at hl 4 rfl) ?_
        have hC0 := hC
        refine c_ci (c_runV (As := [.int y]) (rest := [.int r_38]) (q0 := 2) (ci := 4) ⟨hx, hb, hml, hown, htu⟩ (y_levelOf l G S y hC  H) (cwV 1 htu hU_X5_206 rfl rfl rfl (by decide +kernel) ⟨Nat.le_of_ble_eq_true rfl, Nat.le_of_ble_eq_true rfl⟩) hP hK hD hC hpp cw_2 rfl rfl hl.1 rfl (lv_room (Nat.le_of_ble_eq_true rfl)) dX5_whatIsDue_64) hS hD hh hpp (fun r_42 S_43 H locs hw_44 hP hD hS hC hh hs_45 hpp => ?_)
        obtain ⟨-, hu9, hw_44⟩ := hw_44
        have hu9 := hu9.symm
        subst hu9
        refine lv_icmp_gt (tgt := 72) hx hb dX5_whatIsDue_67 (by decide) (fun c_46 => ?_) (fun c_46 => ?_)
        · skip
          refine lv_iload_n hx hb dX5_whatIsDue_72 rfl (lv_at hl 1 rfl) ?_
          refine lv_iconst (v := 4) hx hb dX5_whatIsDue_73 (by decide) ?_
          refine lv_icmp_ne (tgt := 79) hx hb dX5_whatIsDue_74 (by decide) (fun c_47 => absurd c_9 c_47) (fun c_47 => ?_)
          refine lv_iconst (v := 5) hx hb dX5_whatIsDue_77 (by decide) ?_
          exact c_iret (v := 5) hx hb hr hK hP hD hS hC hh hpp ⟨AW.rf, ⟨rfl, Or.inr (Or.inr (Or.inr (Or.inl ⟨rfl, (hw_3.symm.trans c_9)⟩)))⟩⟩ dX5_whatIsDue_78 hlocks
        · skip
          refine lv_iconst (v := 4) hx hb dX5_whatIsDue_70 (by decide) ?_
          exact c_iret (v := 4) hx hb hr hK hP hD hS hC hh hpp ⟨AW.rf, ⟨rfl, Or.inr (Or.inr (Or.inl ⟨rfl, (hw_7.symm.trans c_36)⟩))⟩⟩ dX5_whatIsDue_71 hlocks
    · skip
      refine lv_iconst (v := 3) hx hb dX5_whatIsDue_43 (by decide) ?_
      exact c_iret (v := 3) hx hb hr hK hP hD hS hC hh hpp ⟨AW.rf, ⟨rfl, Or.inr (Or.inl ⟨rfl, (hw_3.symm.trans c_9)⟩)⟩⟩ dX5_whatIsDue_44 hlocks

def cCopiedAt (fu : Nat) : Prop := ∀ (l : Launch) (G : cG) (S : cS) (T : Nat) (V : Nat) (X : Nat) (Y : Nat) (Z : Nat) (K : Nat) (g : Nat) (dp : Nat) (wy : Nat) (t : Int32) (hC : CL S) (hY : TY S T V V X Y Z) (hBD : ∀ j, j < 2 * V → kK S (35 + j) ≤ K + V) (hKK : K ≤ 1501) (h15 : kK S 15 = 0) (hg : (wy = 2 ∧ g = 0) ∨ (wy ≠ 2 ∧ g = 1)) (hwy : wy < 3) (hdp : dp + fu = 61) (hY2 : Y + 6 * fu ≤ 900) (hlev : 0 ≤ S.1 10) (hab : wy ≠ 2 → 0 ≤ S.1 9) (Hs : Heap), Met l yX5_copied (wC yX5_copied cX5_copied 12 (some .int)) (cRm S (fu + 4) (42 * fu + 140)) (cPc G S Hs [.ref (ga G 4), .int t, .int (nI wy), .int (nI dp)]) (cQi G S Hs (fun v u => AW [6, 7, 8, 9, 16, 14, 10, 11, 12, 13, 25, 26, 35] [] S u ∧ (CX S u T V Y Z K g fu v))) (CC - PT S) (12 * (CC - PT S)) (cA G S Hs.size)

set_option maxHeartbeats 4000000 in
set_option maxRecDepth 100000 in
/-- copied, too deep -/
theorem g_copied_0 (l : Launch) (G : cG) (S : cS) (T : Nat) (V : Nat) (X : Nat) (Y : Nat) (Z : Nat) (K : Nat) (g : Nat) (dp : Nat) (wy : Nat) (t : Int32) (hC : CL S) (hY : TY S T V V X Y Z) (hBD : ∀ j, j < 2 * V → kK S (35 + j) ≤ K + V) (hKK : K ≤ 1501) (h15 : kK S 15 = 0) (hg : (wy = 2 ∧ g = 0) ∨ (wy ≠ 2 ∧ g = 1)) (hwy : wy < 3) (hdp : dp + 0 = 61) (hY2 : Y + 6 * 0 ≤ 900) (hlev : 0 ≤ S.1 10) (hab : wy ≠ 2 → 0 ≤ S.1 9) (Hs : Heap) : Met l yX5_copied (wC yX5_copied cX5_copied 12 (some .int)) (cRm S (0 + 4) (42 * 0 + 140)) (cPc G S Hs [.ref (ga G 4), .int t, .int (nI wy), .int (nI dp)]) (cQi G S Hs (fun v u => AW [6, 7, 8, 9, 16, 14, 10, 11, 12, 13, 25, 26, 35] [] S u ∧ (CX S u T V Y Z K g 0 v))) (CC - PT S) (12 * (CC - PT S)) (cA G S Hs.size) := by
  refine Met.ofW (cc := cX5_copied) (maxL := 12) (ret := (some .int)) (by decide) rfl ?_
  intro p e s m args below meth c s₁ B hml hv
  obtain ⟨rfl, hsz, hP, hK, hD0, -⟩ := hv
  have hx := B.exec
  have hb := B.bytes
  have hr := B.returns
  have htu : ∀ w ∈ CU, w.before _ s = true := fun w h => atoms_spec (ws := (wC yX5_copied cX5_copied 12 (some .int))) B.pre w (List.mem_cons_of_mem _ h)
  have hown : s.vm.findClass RX5 = some m.cls := findClass_of_methodNamed B.named
  have hlocks := B.notSynchronized
  subst hsz
  have hD : cD (cA G S s.heap.size) G S := cD_self hD0
  have hl := lv_entry ([.ref (ga G 4), .int t, .int (nI wy), .int (nI dp)]) (n := 12) (Nat.le_of_ble_eq_true rfl)
  rw [lg_entry_eq]
  generalize (lg_sl ([.ref (ga G 4), .int t, .int (nI wy), .int (nI dp)]) ++ List.replicate (12 - (lg_sl ([.ref (ga G 4), .int t, .int (nI wy), .int (nI dp)])).length) Slot.unset).toArray = ls at hl ⊢
  have hl : lv_has ls 12 [(0, .ref (ga G 4)), (1, .int t), (2, .int (nI wy)), (3, .int (nI dp))] := hl
  obtain ⟨H, hHe⟩ : ∃ H : Heap, H = s.heap := ⟨_, rfl⟩
  rw [← hHe] at hP
  have hS : va_S (cA G S s.heap.size) s.heap H [] := by rw [hHe]; exact va_S.rf
  have hh : HS S S := HS.rf
  have hpp : PT S ≤ PT S := Nat.le_refl _
  have hB9 := hC.1
  refine W.heq hHe ?_
  refine c_ent (S := S) ?_
  refine lv_iload_n hx hb dX5_copied_0 rfl (lv_at hl 3 rfl) ?_
  refine lv_bipush (v := 60) hx hb dX5_copied_1 (by decide) ?_
  refine lv_icmp_le (tgt := 9) hx hb dX5_copied_3 (by decide) (fun c_1 => absurd c_1 (fun h => by have h2 := (nI_leI (a := dp) (b := 60) (by omega) (by omega)).mp h; omega)) (fun c_1 => ?_)
  refine lv_bipush (v := (-6)) hx hb dX5_copied_6 (by decide) ?_
  exact c_iret (v := (-6)) hx hb hr hK hP hD hS hC hh hpp ⟨AW.rf, ⟨T, V, X, Y, CR.rf hY hBD, Nat.le_refl _, Nat.le_add_right _ _, fun _ => rfl⟩⟩ dX5_copied_8 hlocks

