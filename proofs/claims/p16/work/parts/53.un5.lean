theorem un_ok {c : Nat} : ∀ k : Nat, UnF (un k) c
  | 0 => by
    refine ⟨fun s a b h => ?_, fun s y a b e z r q v hI hz ha hb hp hn hi hT => ?_⟩
    · unfold un
      rw [if_pos h]
    · unfold un
      by_cases h0 : sto s ≠ 0
      · rw [if_pos h0]
        exact ⟨y, hI, Ex.rf, Ku.rf⟩
      rw [if_neg h0]
      by_cases h1 : stp s = 1500
      · rw [if_pos h1]
        exact ⟨y, un_stop hI⟩
      rw [if_neg h1]
      have hs : stp s < 1500 := by
        have := hI.1.2.2.2.2.2.1.2.1
        omega
      have i1 := i_step hI hs
      obtain ⟨u1, u2, u3⟩ := un_stop (w := 1) (p := askn s) (r := r) (q := q) (v := v) (b := b) i1
      exact ⟨y, u1, u2, u3.fr rfl ⟨rfl, rfl, rfl⟩⟩
  | k + 1 => by
    refine ⟨fun s a b h => ?_, fun s y a b e z r q v hI hz ha hb hp hn hi hT => ?_⟩
    · unfold un
      rw [if_pos h]
    · unfold un
      by_cases h0 : sto s ≠ 0
      · rw [if_pos h0]
        exact ⟨y, hI, Ex.rf, Ku.rf⟩
      rw [if_neg h0]
      by_cases h1 : stp s = 1500
      · rw [if_pos h1]
        exact ⟨y, un_stop hI⟩
      rw [if_neg h1]
      have hs : stp s < 1500 := by
        have := hI.1.2.2.2.2.2.1.2.1
        omega
      have i1 := i_step hI hs
      have hM : sM y < stp (w1 s 0 2 (stp s + 1)) := by
        have := hI.1.2.2.2.2.2.1.1
        show sM y < stp s + 1
        omega
      by_cases h2 : (a, b) ∈ s.2.2
      · rw [if_pos h2]
        obtain ⟨j1, j2⟩ := i_wst (r := 0) (d := 0) i1 hM (by omega)
        exact ⟨wst y 0 0, j1, j2, ((ku_wst (s := w1 s 0 2 (stp s + 1)) (b := b)).1.mono (Nat.zero_le _) (Nat.zero_le _) b).fr rfl ⟨rfl, rfl, rfl⟩⟩
      rw [if_neg h2]
      have i2 := i_asked (a := a) (b := b) i1
      have hm1 : srt s b = 3 → a ∉ ol y b := fun h3 hm => h2 (((hI.2 b hb.1).2 h3).2.2.2.2.1.2 a hm).1
      have hm2 : srt s a = 3 → b ∉ oh y a := fun h3 hm => h2 (((hI.2 a ha.1).2 h3).2.2.2.2.2.1.2 b hm).1
      obtain ⟨y', u1, u2, u3⟩ := asks_ok (s := asked (w1 s 0 2 (stp s + 1)) a b) (un_ok k) i2 hM List.mem_cons_self hm1 hm2 hz ha hb hp hn hi hT
      exact ⟨y', u1, u2, u3.fr rfl ⟨rfl, rfl, rfl⟩⟩
