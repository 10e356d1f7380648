theorem dX6_addValue_0 : decode cX6_addValue 0 = .ok (.aload_n 0, 1) := by decide +kernel
theorem dX6_addValue_1 : decode cX6_addValue 1 = .ok (.getfield 23, 3) := by decide +kernel
theorem dX6_addValue_4 : decode cX6_addValue 4 = .ok (.iload_n 1, 1) := by decide +kernel
theorem dX6_addValue_5 : decode cX6_addValue 5 = .ok (.invokevirtual 82, 3) := by decide +kernel
theorem dX6_addValue_8 : decode cX6_addValue 8 = .ok (.aload_n 0, 1) := by decide +kernel
theorem dX6_addValue_9 : decode cX6_addValue 9 = .ok (.getfield 27, 3) := by decide +kernel
theorem dX6_addValue_12 : decode cX6_addValue 12 = .ok (.iload_n 2, 1) := by decide +kernel
theorem dX6_addValue_13 : decode cX6_addValue 13 = .ok (.invokevirtual 82, 3) := by decide +kernel
theorem dX6_addValue_16 : decode cX6_addValue 16 = .ok (.aload_n 0, 1) := by decide +kernel
theorem dX6_addValue_17 : decode cX6_addValue 17 = .ok (.getfield 30, 3) := by decide +kernel
theorem dX6_addValue_20 : decode cX6_addValue 20 = .ok (.iload_n 3, 1) := by decide +kernel
theorem dX6_addValue_21 : decode cX6_addValue 21 = .ok (.invokevirtual 82, 3) := by decide +kernel
theorem dX6_addValue_24 : decode cX6_addValue 24 = .ok (.aload_n 0, 1) := by decide +kernel
theorem dX6_addValue_25 : decode cX6_addValue 25 = .ok (.getfield 23, 3) := by decide +kernel
theorem dX6_addValue_28 : decode cX6_addValue 28 = .ok (.getfield 85, 3) := by decide +kernel
theorem dX6_addValue_31 : decode cX6_addValue 31 = .ok (.iconst 1, 1) := by decide +kernel
theorem dX6_addValue_32 : decode cX6_addValue 32 = .ok (.isub, 1) := by decide +kernel
theorem dX6_addValue_33 : decode cX6_addValue 33 = .ok (.ireturn, 1) := by decide +kernel
theorem dX6_addSight_0 : decode cX6_addSight 0 = .ok (.aload_n 0, 1) := by decide +kernel
theorem dX6_addSight_1 : decode cX6_addSight 1 = .ok (.getfield 36, 3) := by decide +kernel
theorem dX6_addSight_4 : decode cX6_addSight 4 = .ok (.iload_n 1, 1) := by decide +kernel
theorem dX6_addSight_5 : decode cX6_addSight 5 = .ok (.invokevirtual 82, 3) := by decide +kernel
theorem dX6_addSight_8 : decode cX6_addSight 8 = .ok (.aload_n 0, 1) := by decide +kernel
theorem dX6_addSight_9 : decode cX6_addSight 9 = .ok (.getfield 39, 3) := by decide +kernel
theorem dX6_addSight_12 : decode cX6_addSight 12 = .ok (.iload_n 2, 1) := by decide +kernel
theorem dX6_addSight_13 : decode cX6_addSight 13 = .ok (.invokevirtual 82, 3) := by decide +kernel
theorem dX6_addSight_16 : decode cX6_addSight 16 = .ok (.aload_n 0, 1) := by decide +kernel
theorem dX6_addSight_17 : decode cX6_addSight 17 = .ok (.getfield 42, 3) := by decide +kernel
theorem dX6_addSight_20 : decode cX6_addSight 20 = .ok (.iload_n 3, 1) := by decide +kernel
theorem dX6_addSight_21 : decode cX6_addSight 21 = .ok (.invokevirtual 82, 3) := by decide +kernel
theorem dX6_addSight_24 : decode cX6_addSight 24 = .ok (.aload_n 0, 1) := by decide +kernel
theorem dX6_addSight_25 : decode cX6_addSight 25 = .ok (.getfield 45, 3) := by decide +kernel
theorem dX6_addSight_28 : decode cX6_addSight 28 = .ok (.iload 4, 2) := by decide +kernel
theorem dX6_addSight_30 : decode cX6_addSight 30 = .ok (.invokevirtual 82, 3) := by decide +kernel
theorem dX6_addSight_33 : decode cX6_addSight 33 = .ok (.aload_n 0, 1) := by decide +kernel
theorem dX6_addSight_34 : decode cX6_addSight 34 = .ok (.getfield 36, 3) := by decide +kernel
theorem dX6_addSight_37 : decode cX6_addSight 37 = .ok (.getfield 85, 3) := by decide +kernel
theorem dX6_addSight_40 : decode cX6_addSight 40 = .ok (.iconst 1, 1) := by decide +kernel
theorem dX6_addSight_41 : decode cX6_addSight 41 = .ok (.isub, 1) := by decide +kernel
theorem dX6_addSight_42 : decode cX6_addSight 42 = .ok (.ireturn, 1) := by decide +kernel
theorem dX6_stuckAt_0 : decode cX6_stuckAt 0 = .ok (.aload_n 0, 1) := by decide +kernel
theorem dX6_stuckAt_1 : decode cX6_stuckAt 1 = .ok (.iload_n 1, 1) := by decide +kernel
theorem dX6_stuckAt_2 : decode cX6_stuckAt 2 = .ok (.putfield 48, 3) := by decide +kernel
theorem dX6_stuckAt_5 : decode cX6_stuckAt 5 = .ok (.bipush (-3), 2) := by decide +kernel
theorem dX6_stuckAt_7 : decode cX6_stuckAt 7 = .ok (.ireturn, 1) := by decide +kernel
theorem dX6_seenBy_0 : decode cX6_seenBy 0 = .ok (.iload_n 2, 1) := by decide +kernel
theorem dX6_seenBy_1 : decode cX6_seenBy 1 = .ok (.istore_n 3, 1) := by decide +kernel
theorem dX6_seenBy_2 : decode cX6_seenBy 2 = .ok (.iconst 0, 1) := by decide +kernel
theorem dX6_seenBy_3 : decode cX6_seenBy 3 = .ok (.istore 4, 2) := by decide +kernel
theorem dX6_seenBy_5 : decode cX6_seenBy 5 = .ok (.iload 4, 2) := by decide +kernel
theorem dX6_seenBy_7 : decode cX6_seenBy 7 = .ok (.bipush 120, 2) := by decide +kernel
theorem dX6_seenBy_9 : decode cX6_seenBy 9 = .ok (.if_icmp .ge 38, 3) := by decide +kernel
theorem dX6_seenBy_47 : decode cX6_seenBy 47 = .ok (.bipush (-9), 2) := by decide +kernel
theorem dX6_seenBy_49 : decode cX6_seenBy 49 = .ok (.ireturn, 1) := by decide +kernel
theorem dX6_seenBy_12 : decode cX6_seenBy 12 = .ok (.iload_n 3, 1) := by decide +kernel
theorem dX6_seenBy_13 : decode cX6_seenBy 13 = .ok (.bipush (-9), 2) := by decide +kernel
theorem dX6_seenBy_15 : decode cX6_seenBy 15 = .ok (.if_icmp .eq 32, 3) := by decide +kernel
theorem dX6_seenBy_18 : decode cX6_seenBy 18 = .ok (.aload_n 0, 1) := by decide +kernel
theorem dX6_seenBy_19 : decode cX6_seenBy 19 = .ok (.getfield 36, 3) := by decide +kernel
theorem dX6_seenBy_22 : decode cX6_seenBy 22 = .ok (.iload_n 3, 1) := by decide +kernel
theorem dX6_seenBy_23 : decode cX6_seenBy 23 = .ok (.invokevirtual 131, 3) := by decide +kernel
theorem dX6_seenBy_26 : decode cX6_seenBy 26 = .ok (.iload_n 1, 1) := by decide +kernel
theorem dX6_seenBy_27 : decode cX6_seenBy 27 = .ok (.if_icmp .ne 5, 3) := by decide +kernel
theorem dX6_seenBy_32 : decode cX6_seenBy 32 = .ok (.aload_n 0, 1) := by decide +kernel
theorem dX6_seenBy_33 : decode cX6_seenBy 33 = .ok (.getfield 45, 3) := by decide +kernel
theorem dX6_seenBy_36 : decode cX6_seenBy 36 = .ok (.iload_n 3, 1) := by decide +kernel
theorem dX6_seenBy_37 : decode cX6_seenBy 37 = .ok (.invokevirtual 131, 3) := by decide +kernel
theorem dX6_seenBy_40 : decode cX6_seenBy 40 = .ok (.istore_n 3, 1) := by decide +kernel
theorem dX6_seenBy_41 : decode cX6_seenBy 41 = .ok (.iinc 4 1, 3) := by decide +kernel
theorem dX6_seenBy_44 : decode cX6_seenBy 44 = .ok (.goto (-39), 3) := by decide +kernel
theorem dX6_seenBy_30 : decode cX6_seenBy 30 = .ok (.iload_n 3, 1) := by decide +kernel
theorem dX6_seenBy_31 : decode cX6_seenBy 31 = .ok (.ireturn, 1) := by decide +kernel
/-! ===== the class's WORKING: what is made is paid for by what was begun ===== -/
def WR (S : cS) (al v s f bg : Nat) : Prop := (kK S 27 = v ∧ kK S 28 = v ∧ kK S 29 = v) ∧ kK S 30 = f ∧ (kK S 31 = s ∧ kK S 32 = s ∧ kK S 33 = s ∧ kK S 34 = s) ∧ S.1 110 = nI al ∧ S.1 111 = nI bg ∧ bg ≤ al ∧ al ≤ 300 ∧ v ≤ bg ∧ s ≤ bg ∧ f ≤ 6 * bg
def WX (u : cS) (al v s f bg c : Nat) : Prop := ∃ v1 s1 f1 bg1, WR u al v1 s1 f1 bg1 ∧ bg ≤ bg1 ∧ v1 + bg ≤ v + bg1 + c ∧ s1 + bg ≤ s + bg1 + c ∧ f1 + 6 * bg ≤ f + 6 * bg1 + 6 * c
theorem WR.aw {rs is : List Nat} {S u : cS} {al v s f bg : Nat} (h : WR S al v s f bg) (a : AW rs is S u) (hr : ∀ r ∈ [27, 28, 29, 30, 31, 32, 33, 34], r ∉ rs) (hi : 110 ∉ is ∧ 111 ∉ is) : WR u al v s f bg := by
  obtain ⟨⟨a1, a2, a3⟩, a4, ⟨a5, a6, a7, a8⟩, a9, a10, a11⟩ := h
  have k : ∀ r, r < 35 → r ∈ [27, 28, 29, 30, 31, 32, 33, 34] → kK u r = kK S r := fun r h1 h2 => (a.2.1 r (by omega) (by rw [Nat.min_eq_left (by omega)]; exact hr r h2)).2
  exact ⟨⟨(k 27 (by decide) (by decide)).trans a1, (k 28 (by decide) (by decide)).trans a2, (k 29 (by decide) (by decide)).trans a3⟩, (k 30 (by decide) (by decide)).trans a4, ⟨(k 31 (by decide) (by decide)).trans a5, (k 32 (by decide) (by decide)).trans a6, (k 33 (by decide) (by decide)).trans a7, (k 34 (by decide) (by decide)).trans a8⟩, (a.1 110 hi.1).trans a9, (a.1 111 hi.2).trans a10, a11⟩
theorem WR.val {S u : cS} {al v s f bg : Nat} (h : WR S al v s f bg) (a : AW [27, 28, 29] [] S u) (k : kK u 27 = v + 1 ∧ kK u 28 = v + 1 ∧ kK u 29 = v + 1) (hv : v + 1 ≤ bg) : WR u al (v + 1) s f bg := by
  obtain ⟨-, a4, ⟨a5, a6, a7, a8⟩, a9, a10, a11, a12, -, a14⟩ := h
  have k2 : ∀ r, r < 35 → r ∈ [30, 31, 32, 33, 34] → kK u r = kK S r := fun r h1 h2 => (a.2.1 r (by omega) (by rw [Nat.min_eq_left (by omega)]; revert r; decide)).2
  exact ⟨k, (k2 30 (by decide) (by decide)).trans a4, ⟨(k2 31 (by decide) (by decide)).trans a5, (k2 32 (by decide) (by decide)).trans a6, (k2 33 (by decide) (by decide)).trans a7, (k2 34 (by decide) (by decide)).trans a8⟩, (a.1 110 (by decide)).trans a9, (a.1 111 (by decide)).trans a10, a11, a12, hv, a14⟩
theorem WR.sgt {S u : cS} {al v s f bg : Nat} (h : WR S al v s f bg) (a : AW [31, 32, 33, 34] [] S u) (k : kK u 31 = s + 1 ∧ kK u 32 = s + 1 ∧ kK u 33 = s + 1 ∧ kK u 34 = s + 1) (hv : s + 1 ≤ bg) : WR u al v (s + 1) f bg := by
  obtain ⟨⟨a1, a2, a3⟩, a4, -, a9, a10, a11, a12, a13, -, a15⟩ := h
  have k2 : ∀ r, r < 35 → r ∈ [27, 28, 29, 30] → kK u r = kK S r := fun r h1 h2 => (a.2.1 r (by omega) (by rw [Nat.min_eq_left (by omega)]; revert r; decide)).2
  exact ⟨⟨(k2 27 (by decide) (by decide)).trans a1, (k2 28 (by decide) (by decide)).trans a2, (k2 29 (by decide) (by decide)).trans a3⟩, (k2 30 (by decide) (by decide)).trans a4, k, (a.1 110 (by decide)).trans a9, (a.1 111 (by decide)).trans a10, a11, a12, a13, hv, a15⟩
theorem WR.fld {S u : cS} {al v s f f1 bg : Nat} (h : WR S al v s f bg) (a : AW [30] [] S u) (k : kK u 30 = f1) (hv : f1 ≤ 6 * bg) : WR u al v s f1 bg := by
  obtain ⟨⟨a1, a2, a3⟩, -, ⟨a5, a6, a7, a8⟩, a9, a10, a11, a12, a13, a14, -⟩ := h
  have k2 : ∀ r, r < 35 → r ∈ [27, 28, 29, 31, 32, 33, 34] → kK u r = kK S r := fun r h1 h2 => (a.2.1 r (by omega) (by rw [Nat.min_eq_left (by omega)]; revert r; decide)).2
  exact ⟨⟨(k2 27 (by decide) (by decide)).trans a1, (k2 28 (by decide) (by decide)).trans a2, (k2 29 (by decide) (by decide)).trans a3⟩, k, ⟨(k2 31 (by decide) (by decide)).trans a5, (k2 32 (by decide) (by decide)).trans a6, (k2 33 (by decide) (by decide)).trans a7, (k2 34 (by decide) (by decide)).trans a8⟩, (a.1 110 (by decide)).trans a9, (a.1 111 (by decide)).trans a10, a11, a12, a13, a14, hv⟩
theorem WR.beg {S : cS} {al v s f bg : Nat} (h : WR S al v s f bg) (hb : bg < al) : WR (cO S 111 (nI (bg + 1))) al v s f (bg + 1) := by
  obtain ⟨a1, a4, a5, a9, a10, a11, a12, a13, a14, a15⟩ := h
  exact ⟨a1, a4, a5, (cO_n (by decide)).trans a9, cO_s, hb, a12, by omega, by omega, by omega⟩
theorem WX.run {u : cS} {al v s f bg : Nat} (h : WX u al v s f (bg + 1) 1) : WX u al v s f bg 0 := by
  obtain ⟨v1, s1, f1, b1, w, x1, x2, x3, x4⟩ := h
  exact ⟨v1, s1, f1, b1, w, by omega, by omega, by omega, by omega⟩
theorem WX.tail {u : cS} {al v s f bg v0 s0 f0 b0 c : Nat} (h : WX u al v s f bg 0) (a : b0 ≤ bg ∧ v + b0 ≤ v0 + bg + c ∧ s + b0 ≤ s0 + bg + c ∧ f + 6 * b0 ≤ f0 + 6 * bg + 6 * c) : WX u al v0 s0 f0 b0 c := by
  obtain ⟨v1, s1, f1, b1, w, x1, x2, x3, x4⟩ := h
  exact ⟨v1, s1, f1, b1, w, by omega, by omega, by omega, by omega⟩
