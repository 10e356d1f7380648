/-! ===== the tree grows: a node behind the others, with parts that were free ===== -/
def trN (tr : aM) (N k v : Nat) (qs : List Nat) : aM := fun g j => if j = N then (if g = 0 then k else if g = 1 then v else if g = 2 then qs.length else if g = 3 then 0 else qs.getD (g - 10) 0) else if g = 3 then (if j ∈ qs then N + 1 else tr 3 j) else tr g j
theorem trN_o {tr : aM} {N k v g j : Nat} {qs : List Nat} (hj : j ≠ N) (hg : g ≠ 3) : trN tr N k v qs g j = tr g j := by
  unfold trN
  rw [if_neg hj, if_neg hg]
theorem trN_3 {tr : aM} {N k v j : Nat} {qs : List Nat} (hj : j ≠ N) : trN tr N k v qs 3 j = if j ∈ qs then N + 1 else tr 3 j := by
  unfold trN
  rw [if_neg hj, if_pos rfl]
theorem trN_p {tr : aM} {N k v i : Nat} {qs : List Nat} : trN tr N k v qs (10 + i) N = qs.getD i 0 := by
  unfold trN
  rw [if_pos rfl, if_neg (by omega), if_neg (by omega), if_neg (by omega), if_neg (by omega)]
  congr 1
  omega
theorem nd_inj {l : List Nat} (h : l.Nodup) {i j : Nat} (hi : i < l.length) (hj : j < l.length) (he : l[i] = l[j]) : i = j := by
  have h1 := List.pairwise_iff_getElem.mp h
  rcases Nat.lt_trichotomy i j with h2 | h2 | h2
  · exact absurd he (h1 i j hi hj h2)
  · exact h2
  · exact absurd he.symm (h1 j i hj hi h2)
theorem TRw.node {tr : aM} {N k v : Nat} {qs : List Nat} (h : TRw tr N) (hq : qs.Nodup) (hp : prts k qs.length = qs.length) : TRw (trN tr N k v qs) (N + 1) := by
  obtain ⟨rk, h1, h2⟩ := h
  refine ⟨fun j => if j = N then 0 else rk j + 1, fun c hc => ?_, fun n hn i i' hi hi' he => ?_⟩
  · by_cases e : c = N
    · rw [e] at hc
      have : trN tr N k v qs 3 N = 0 := by
        unfold trN
        rw [if_pos rfl]
        rfl
      exact absurd this hc
    · rw [trN_3 e] at hc ⊢
      show (if _ = N then 0 else _) < (if c = N then 0 else rk c + 1)
      rw [if_neg e]
      by_cases e2 : c ∈ qs
      · rw [if_pos e2, if_pos (by omega)]
        omega
      · rw [if_neg e2] at hc ⊢
        by_cases e3 : tr 3 c - 1 = N
        · rw [if_pos e3]
          omega
        · rw [if_neg e3]
          have := h1 c hc
          omega
  · by_cases e : n = N
    · subst e
      have k0 : trN tr n k v qs 0 n = k := by
        unfold trN
        rw [if_pos rfl]
        rfl
      have k2 : trN tr n k v qs 2 n = qs.length := by
        unfold trN
        rw [if_pos rfl]
        rfl
      rw [k0, k2, hp] at hi hi'
      rw [trN_p, trN_p, gtD hi, gtD hi'] at he
      exact nd_inj hq hi hi' he
    · rw [trN_o e (by decide), trN_o e (by decide)] at hi hi'
      rw [trN_o e (by omega), trN_o e (by omega)] at he
      exact h2 n (by omega) i i' hi hi' he
theorem TRf.node {tr : aM} {N k v : Nat} {qs : List Nat} {F F' : Nat → Nat → Int32} (h : TRf tr N F) (e6 : ∀ j, j < N → F' 6 j = if j ∈ qs then nI N else F 6 j) (e6N : F' 6 N = -9) : TRf (trN tr N k v qs) (N + 1) F' := by
  intro n hn h0
  by_cases e : n = N
  · rw [e]
    exact e6N
  · rw [trN_3 e] at h0
    by_cases e2 : n ∈ qs
    · rw [if_pos e2] at h0
      omega
    · rw [if_neg e2] at h0
      rw [e6 n (by omega), if_neg e2]
      exact h n (by omega) h0
theorem TRm.node {tr : aM} {N k v : Nat} {qs : List Nat} {o o' : Nat → Int32} {F F' : Nat → Nat → Int32} (h : TRm tr N o F) (hN : N < 120) (hk : k ≤ 11) (hp : prts k qs.length = qs.length) (hl : qs.length ≤ 3) (hk5 : k = 5 → qs = []) (hq : ∀ q ∈ qs, q < N ∧ tr 3 q = 0) (hd : qs.Nodup)
    (eo : o' 0 = nI (N + 1)) (e1 : F' 1 = upd (F 1) N (nI k)) (e2 : ∀ j, j < N → F' 2 j = F 2 j) (e2N : (k = 2 ∨ k = 3 ∨ k = 6 ∨ k = 7 ∨ k = 8) → F' 2 N = nI v ∧ v < 26) (e3 : F' 3 = upd (F 3) N (nI qs.length)) (e4 : ∀ j, j < 6 * N → F' 4 j = F 4 j ∧ F' 5 j = F 5 j) (e4N : ∀ i, i < qs.length → F' 4 (6 * N + i) = nI (qs.getD i 0)) (e6 : ∀ j, j < N → F' 6 j = if j ∈ qs then nI N else F 6 j) : TRm (trN tr N k v qs) (N + 1) o' F' := by
  obtain ⟨-, -, h3⟩ := h
  refine ⟨eo, by omega, fun n hn => ?_⟩
  by_cases e : n = N
  · subst e
    have k0 : trN tr n k v qs 0 n = k := by
      unfold trN
      rw [if_pos rfl]
      rfl
    have k1 : trN tr n k v qs 1 n = v := by
      unfold trN
      rw [if_pos rfl]
      rfl
    have k2 : trN tr n k v qs 2 n = qs.length := by
      unfold trN
      rw [if_pos rfl]
      rfl
    have k3 : trN tr n k v qs 3 n = 0 := by
      unfold trN
      rw [if_pos rfl]
      rfl
    rw [k0, k1, k2, k3, e1, e3, upd_s, upd_s, hp]
    refine ⟨rfl, hk, e2N, rfl, by omega, fun h => absurd rfl h, fun i hi => ?_, fun h5 i hi => ?_, fun h7 => ?_⟩
    · have hm : qs.getD i 0 ∈ qs := by
        rw [gtD hi]
        exact List.getElem_mem hi
      obtain ⟨a, b⟩ := hq _ hm
      rw [trN_p]
      refine ⟨e4N i hi, by omega, ?_⟩
      rw [trN_3 (by omega), if_pos hm]
    · rw [hk5 h5] at hi
      exact absurd hi (by simp)
    · have h2 : qs.length = 2 := by
        rw [h7] at hp
        exact hp.symm
      show trN tr n k v qs (10 + 1) n ≠ trN tr n k v qs (10 + 0) n
      rw [trN_p, trN_p, gtD (by omega), gtD (by omega)]
      intro he
      have := nd_inj hd _ _ he
      omega
  · obtain ⟨t1, t2, t3, t4, t5, t6, t7, t8, t9⟩ := h3 n (by omega)
    have to : ∀ g, g ≠ 3 → trN tr N k v qs g n = tr g n := fun g hg => trN_o e hg
    rw [to 0 (by decide), to 1 (by decide), to 2 (by decide), to 10 (by decide), to 11 (by decide), e1, e3, upd_n e, upd_n e, e2 n (by omega)]
    refine ⟨t1, t2, t3, t4, t5, fun h => ?_, fun i hi => ?_, fun h5 i hi => ?_, t9⟩
    · rw [trN_3 e] at h ⊢
      rw [e6 n (by omega)]
      by_cases e7 : n ∈ qs
      · rw [if_pos e7, if_pos e7]
        exact ⟨rfl, by omega⟩
      · rw [if_neg e7] at h ⊢
        rw [if_neg e7]
        obtain ⟨a, b⟩ := t6 h
        exact ⟨a, by omega⟩
    · obtain ⟨a, b, c⟩ := t7 i hi
      have hi6 : i < 6 := by
        have : prts (tr 0 n) (tr 2 n) ≤ 6 := by
          unfold prts
          split
          · omega
          · split
            · exact t5
            · split
              · omega
              · split
                · omega
                · omega
        omega
      rw [to (10 + i) (by omega), (e4 _ (by omega)).1]
      refine ⟨a, by omega, ?_⟩
      have hc : tr (10 + i) n ∉ qs := fun hm => by
        have := (hq _ hm).2
        omega
      rw [trN_3 (by omega), if_neg hc]
      exact c
    · obtain ⟨a, b⟩ := t8 h5 i hi
      rw [to (20 + i) (by omega), (e4 _ (by omega)).2]
      exact ⟨a, b⟩
