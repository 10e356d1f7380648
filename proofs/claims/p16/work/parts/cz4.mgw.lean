/-! ===== the second program's signs, as lists ===== -/
def MG9 (o : Nat → Int32) (F : Nat → Nat → Int32) (L : List Int32) : Prop := o 47 = nI L.length ∧ ∀ j, j < L.length → F 46 j = L.getD j 0
theorem MG9.out {o : Nat → Int32} {F : Nat → Nat → Int32} {L : List Int32} {x : Int32} {u : mS} (h : MG9 o F L) (hu : u = if L.length < 200 then (upd o 47 (nI (L.length + 1)), fput F 46 L.length (vp_nar .byte x.toInt8.toInt32)) else (o, F)) : MG9 u.1 u.2 (lput 200 L (b8 x)) ∧ Kq [46, 47] o F u := by
  by_cases hl : L.length < 200
  · rw [if_pos hl] at hu
    subst hu
    rw [lput_lt hl]
    refine ⟨⟨by rw [List.length_append]; rfl, fun j hj => ?_⟩, (Kq.rf.o (by decide)).F (by decide)⟩
    rw [List.length_append, List.length_singleton] at hj
    rw [gD_app]
    by_cases h1 : j < L.length
    · rw [if_pos h1]
      exact (show fput F 46 L.length (vp_nar .byte x.toInt8.toInt32) 46 j = F 46 j from fput_j (by omega)).trans (h.2 j h1)
    · rw [if_neg h1, if_pos (by omega), show j = L.length by omega]
      show fput F 46 L.length (vp_nar .byte x.toInt8.toInt32) 46 L.length = _
      exact fput_s
  · rw [if_neg hl] at hu
    subst hu
    rw [lput_full hl]
    exact ⟨h, Kq.rf⟩
theorem MG9.keep {o o' : Nat → Int32} {F F' : Nat → Nat → Int32} {L : List Int32} (h : MG9 o F L) (e1 : o' 47 = o 47) (e2 : F' 46 = F 46) : MG9 o' F' L := ⟨e1.trans h.1, fun j hj => by rw [e2]; exact h.2 j hj⟩
/-- figures, the greatest place first -/
def dgs (m : Nat) : Nat → List Int32
  | 0 => []
  | j + 1 => nI (48 + m / 10 ^ j % 10) :: dgs m j
