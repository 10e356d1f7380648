/-- the numbers at the start -/
def y0 : aG := ((fun g i => if g = 20 then (if i = 11 then 1 else 0) else if g = 2 ∨ g = 4 ∨ g = 5 then 1 else 0), (fun g i => if g = 2 ∧ i = 0 then [0] else []))
theorem y0_p : pth y0 0 = [0] := rfl
theorem y0_zok : Zok y0 0 := by
  refine ⟨rfl, fun d z' h => ?_⟩
  rw [y0_p] at h ⊢
  rcases d with _ | d
  · have h' : z' = 0 := by simpa using h.symm
    rw [h']
    rfl
  · simp at h
theorem start_inv : Inv start y0 0 := by
  refine ⟨⟨⟨?_, ?_, ?_, ?_⟩, ?_, ⟨y0_zok, ?_, ?_, ?_⟩, ⟨?_, ?_, ?_⟩, ⟨?_, ?_, ?_, ?_, ?_, ?_⟩, ⟨?_, ?_, ?_⟩, ⟨?_, ?_⟩, ⟨?_, ?_⟩⟩, ?_⟩
  · decide
  · decide
  · decide
  · decide
  · intro v hv
    have : nV start = 0 := rfl
    omega
  · decide
  · intro z hz z' hz'
    have : sZ y0 = 1 := rfl
    have e : z = 0 := by omega
    rw [e, y0_p] at hz'
    have : z' = 0 := by simpa using hz'
    omega
  · intro z _
    rfl
  · decide
  · decide
  · decide
  · intro t h
    have : it y0 t = 0 := rfl
    omega
  · decide
  · decide
  · decide
  · decide
  · decide
  · decide
  · decide
  · decide
  · decide
  · decide
  · intro e he
    exact absurd he (List.not_mem_nil)
  · exact trivial
  · intro t ht
    have h2 : nT start = 2 := rfl
    have hs : srt start t = 0 := rfl
    refine ⟨⟨⟨Nat.zero_lt_one, fun _ => rfl⟩, Or.inl ⟨rfl, by omega, rfl, rfl, rfl, rfl, rfl, rfl⟩⟩, fun h => by omega⟩
theorem start_cx : Cx y0 0 0 0 := rfl
theorem cv_top (P : Nat → Prop) (tr : aM) (top : Nat) : ∀ j, Cv P tr top j top
  | 0 => trivial
  | _ + 1 => Or.inl rfl
