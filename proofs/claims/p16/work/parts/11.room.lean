/-! ===== room: what a call really makes (its cells and their slots), and counters made tight by it ===== -/
def hu (z : Nat) (H : Heap) : Nat := ((H.toList.drop z).map (fun c => c.slots.size)).sum
def Gr (H0 H : Heap) (k n : Nat) : Prop := H0.size ≤ H.size ∧ H.size ≤ H0.size + k ∧ hu H0.size H ≤ n ∧ ∀ (a : Nat) (c : Cell), H0[a]? = some c → ∃ c' : Cell, H[a]? = some c' ∧ c'.slots.size = c.slots.size
theorem Gr.mono {H0 H : Heap} {k n k' n' : Nat} (h : Gr H0 H k n) (hk : k ≤ k') (hn : n ≤ n') : Gr H0 H k' n' := ⟨h.1, Nat.le_trans h.2.1 (Nat.add_le_add_left hk _), Nat.le_trans h.2.2.1 hn, h.2.2.2⟩
theorem hu_split {H H1 : Heap} {z : Nat} (hz : z ≤ H.size) (hs : H.size ≤ H1.size) (he : ∀ (a : Nat) (c : Cell), H[a]? = some c → ∃ c' : Cell, H1[a]? = some c' ∧ c'.slots.size = c.slots.size) : hu z H1 = hu z H + hu H.size H1 := by
  have e : H1.toList.map (fun c => c.slots.size) = H.toList.map (fun c => c.slots.size) ++ (H1.toList.drop H.size).map (fun c => c.slots.size) := by
    apply List.ext_getElem?
    intro i
    by_cases hi : i < H.size
    · rw [List.getElem?_append_left (by simpa using hi), List.getElem?_map, List.getElem?_map]
      have h1 : H[i]? = some H[i] := Array.getElem?_eq_getElem hi
      obtain ⟨c', hc', hsz⟩ := he i _ h1
      rw [Array.getElem?_toList, Array.getElem?_toList, h1, hc']
      simp [hsz]
    · rw [List.getElem?_append_right (by simpa using Nat.le_of_not_lt hi), List.getElem?_map, List.getElem?_map, List.getElem?_drop]
      congr 2
      simp only [List.length_map, Array.length_toList]
      omega
  unfold hu
  rw [List.map_drop, List.map_drop, List.map_drop, e, List.drop_append_of_le_length (by simpa using hz), List.sum_append]
  congr 1
  have hz0 : List.drop H.size (List.map (fun c : Cell => c.slots.size) H.toList) = [] := List.drop_eq_nil_of_le (by simp)
  rw [List.drop_append_of_le_length (by simp), hz0, List.nil_append]
theorem Gr.trans {H0 H H1 : Heap} {k n a b : Nat} (h : Gr H0 H k n) (h1 : Gr H H1 a b) : Gr H0 H1 (k + a) (n + b) := by
  refine ⟨Nat.le_trans h.1 h1.1, ?_, ?_, ?_⟩
  · have := h.2.1
    have := h1.2.1
    omega
  · rw [hu_split h.1 h1.1 h1.2.2.2]
    have := h.2.2.1
    have := h1.2.2.1
    omega
  · intro q c hq
    obtain ⟨c', h2, h3⟩ := h.2.2.2 q c hq
    obtain ⟨c2, h4, h5⟩ := h1.2.2.2 q c' h2
    exact ⟨c2, h4, h5.trans h3⟩
theorem Gr.rf {H : Heap} : Gr H H 0 0 := ⟨Nat.le_refl _, Nat.le_refl _, by unfold hu; rw [List.drop_eq_nil_of_le (by simp)]; exact Nat.le_refl 0, fun _ c h => ⟨c, h, rfl⟩⟩
/-- what stands at a point of a walk says how much has come -/
theorem W.know {p : Program} {l : Launch} {e : Env} {R : Room} {s : State} {m : MethodId} {args : Array Value} {below : List Frame} {meth : Method} {c : Code} {H : Heap} {locs : List Loc} {cells slots : Nat} {Q : State → Prop} {g : JFrame} (kk : Gr s.heap H cells slots → W p l e R s m args below meth c H locs cells slots Q g) : W p l e R s m args below meth c H locs cells slots Q g := by
  intro T hT X
  refine kk ?_ T hT X
  obtain ⟨-, h2, h3, -, h5, h6⟩ := X.same
  subst hT
  exact ⟨h2, h3, h5, fun a c0 hc => by
    obtain ⟨c', h7, -, h8, -⟩ := h6 a c0 hc
    exact ⟨c', h7, h8⟩⟩
/-- counters as small as what has come -/
theorem W.tight {p : Program} {l : Launch} {e : Env} {R : Room} {s : State} {m : MethodId} {args : Array Value} {below : List Frame} {meth : Method} {c : Code} {H : Heap} {locs : List Loc} {cells slots k n : Nat} {Q : State → Prop} {g : JFrame} (hG : Gr s.heap H k n) (kk : W p l e R s m args below meth c H locs k n Q g) : W p l e R s m args below meth c H locs cells slots Q g := by
  intro T hT X
  subst hT
  obtain ⟨h1, h2, -, h4, -, h6⟩ := X.same
  exact kk T rfl { X with same := ⟨h1, h2, hG.2.1, h4, hG.2.2.1, h6⟩ }
