/-! ===== a node, a field in both programs ===== -/
theorem CI.of_aw {rs is : List Nat} {S u : cS} {N N' : Nat} (h : CI S N) (a : AW rs is S u) (hT : TJ u N') (hY : ∃ T V X Y Z, TY u T V V X Y Z) (hr : ∀ r ∈ [15, 19, 20, 21], r ∉ rs) (hi : ∀ k ∈ [200, 201, 202], k ∉ is) : CI u N' := by
  obtain ⟨-, -, ⟨h1, h2, h3, h4⟩, h5, h6, h7⟩ := h
  have e : ∀ r, r ∈ [15, 19, 20, 21] → kK u r = kK S r := fun r hm => (a.2.1 r (by simp only [List.mem_cons, List.not_mem_nil, or_false] at hm; omega) (by
    rw [Nat.min_eq_left (by simp only [List.mem_cons, List.not_mem_nil, or_false] at hm; omega)]
    exact hr r hm)).2
  refine ⟨hT, hY, ⟨(e 15 (by decide)).trans h1, (e 19 (by decide)).trans h2, (e 20 (by decide)).trans h3, (e 21 (by decide)).trans h4⟩, ?_, ?_, ?_⟩
  · rw [a.1 200 (hi 200 (by decide))]
    exact h5
  · rw [a.1 201 (hi 201 (by decide))]
    exact h6
  · rw [a.1 202 (hi 202 (by decide))]
    exact h7
theorem TJ.of {S : cS} {tr : aM} {N : Nat} {o : Nat → Int32} {F : Nat → Nat → Int32} (hT : TI S N) (hI : RI tr N o F) (hE : TEq S F N) : TJ S N := by
  refine ⟨hT, fun n hn => ?_⟩
  obtain ⟨t1, t2, t3, t4, t5, -⟩ := hI.1.2.2 n hn
  rw [(hE.1 n hn).2.2.2, t4]
  exact (nI_leI (a := tr 2 n) (b := 6) (by omega) (by omega)).mpr t5
theorem full_iff {N : Nat} (hN : N ≤ 120) : t_full N = 0 ↔ N < 120 := by
  unfold t_full
  rw [show (120 : Int32) = nI 120 by decide +kernel]
  by_cases h : N < 120
  · rw [if_pos ((nI_ltI (a := N) (b := 120) (by omega) (by omega)).mpr h)]
    exact ⟨fun _ => h, fun _ => rfl⟩
  · rw [if_neg (fun z => h ((nI_ltI (a := N) (b := 120) (by omega) (by omega)).mp z))]
    exact ⟨fun z => absurd z (by decide), fun z => absurd z h⟩
