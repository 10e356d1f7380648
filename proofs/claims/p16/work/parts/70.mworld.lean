/-! ===== the world of the second program: one object of 68 fields (numbers o, arrays at ad), its arrays F ===== -/
abbrev mG : Type := Nat × ClassId × ClassId × ClassId × (Nat → Nat) × va_G
abbrev mh (G : mG) : Nat := G.1
abbrev mI (G : mG) : ClassId := G.2.1
abbrev mB (G : mG) : ClassId := G.2.2.1
abbrev mZ (G : mG) : ClassId := G.2.2.2.1
abbrev md (G : mG) : Nat → Nat := G.2.2.2.2.1
abbrev mD (G : mG) : va_G := G.2.2.2.2.2
def mO (G : mG) (o : Nat → Int32) : List Value := [.int (o 0), .ref (md G 1), .ref (md G 2), .ref (md G 3), .ref (md G 4), .ref (md G 5), .ref (md G 6), .int (o 7), .ref (md G 8), .ref (md G 9), .ref (md G 10), .ref (md G 11), .ref (md G 12), .ref (md G 13), .int (o 14), .ref (md G 15), .int (o 16), .ref (md G 17), .ref (md G 18), .ref (md G 19), .ref (md G 20), .ref (md G 21), .int (o 22), .int (o 23), .int (o 24), .int (o 25), .int (o 26), .int (o 27), .int (o 28), .ref (md G 29), .ref (md G 30), .int (o 31), .int (o 32), .int (o 33), .int (o 34), .int (o 35), .ref (md G 36), .ref (md G 37), .ref (md G 38), .int (o 39), .ref (md G 40), .ref (md G 41), .int (o 42), .ref (md G 43), .ref (md G 44), .int (o 45), .ref (md G 46), .int (o 47), .int (o 48), .ref (md G 49), .ref (md G 50), .int (o 51), .ref (md G 52), .ref (md G 53), .ref (md G 54), .ref (md G 55), .int (o 56), .ref (md G 57), .ref (md G 58), .ref (md G 59), .ref (md G 60), .int (o 61), .int (o 62), .int (o 63), .int (o 64), .int (o 65), .int (o 66), .int (o 67)]
def mW (G : mG) (o : Nat → Int32) (F : Nat → Nat → Int32) : va_W := [(mh G, .inr (8, mO G o)), (md G 1, .inl (mI G, 120, .inl (F 1))), (md G 2, .inl (mI G, 120, .inl (F 2))), (md G 3, .inl (mI G, 120, .inl (F 3))), (md G 4, .inl (mI G, 720, .inl (F 4))), (md G 5, .inl (mI G, 720, .inl (F 5))), (md G 6, .inl (mI G, 120, .inl (F 6))), (md G 8, .inl (mI G, 602, .inl (F 8))), (md G 9, .inl (mI G, 602, .inl (F 9))), (md G 10, .inl (mI G, 602, .inl (F 10))), (md G 11, .inl (mI G, 602, .inl (F 11))), (md G 12, .inl (mI G, 3612, .inl (F 12))), (md G 13, .inl (mI G, 3612, .inl (F 13))), (md G 15, .inl (mI G, 150, .inl (F 15))), (md G 17, .inl (mI G, 200000, .inl (F 17))), (md G 18, .inl (mI G, 200000, .inl (F 18))), (md G 19, .inl (mI G, 300, .inl (F 19))), (md G 20, .inl (mI G, 300, .inl (F 20))), (md G 21, .inl (mI G, 300, .inl (F 21))), (md G 29, .inl (mI G, 1501, .inl (F 29))), (md G 30, .inl (mI G, 1501, .inl (F 30))), (md G 36, .inl (mI G, 300, .inl (F 36))), (md G 37, .inl (mI G, 300, .inl (F 37))), (md G 38, .inl (mI G, 8000, .inl (F 38))), (md G 40, .inl (mI G, 150, .inl (F 40))), (md G 41, .inl (mI G, 150, .inl (F 41))), (md G 43, .inl (mI G, 120, .inl (F 43))), (md G 44, .inl (mI G, 120, .inl (F 44))), (md G 46, .inl (mB G, 400, .inl (F 46))), (md G 49, .inl (mZ G, 300, .inl (F 49))), (md G 50, .inl (mI G, 12, .inl (F 50))), (md G 52, .inl (mI G, 400, .inl (F 52))), (md G 53, .inl (mI G, 400, .inl (F 53))), (md G 54, .inl (mI G, 400, .inl (F 54))), (md G 55, .inl (mI G, 2400, .inl (F 55))), (md G 57, .inl (mI G, 700, .inl (F 57))), (md G 58, .inl (mI G, 700, .inl (F 58))), (md G 59, .inl (mI G, 700, .inl (F 59))), (md G 60, .inl (mI G, 700, .inl (F 60)))]
def mT (G : mG) : List (ClassId × FieldType) := [(mI G, .int), (mB G, .byte), (mZ G, .boolean)]
def mP (G : mG) (o : Nat → Int32) (F : Nat → Nat → Int32) (H : Heap) : Prop := va_P (mD G) vwCl (mW G o F) H
def mK (G : mG) (U : State) : Prop := va_K (mD G) vwCl (mT G) U
def mA (G : mG) (sz : Nat) : Nat → Prop := va_A (mW G (fun _ => 0) (fun _ _ => 0)) sz
def mDD (G : mG) : Prop := va_D (fun _ => True) (mW G (fun _ => 0) (fun _ _ => 0))
def fput (F : Nat → Nat → Int32) (k j : Nat) (x : Int32) : Nat → Nat → Int32 := fun a => if a = k then upd (F a) j x else F a
theorem mW_adr (G : mG) (o o' : Nat → Int32) (F F' : Nat → Nat → Int32) : (mW G o F).map (fun q => q.1) = (mW G o' F').map (fun q => q.1) := rfl
theorem va_D_adr {A : Nat → Prop} {w w' : va_W} (he : w.map (fun q => q.1) = w'.map (fun q => q.1)) (h : va_D A w) : va_D A w' := by
  have key : ∀ (k : Nat) (q : Nat × va_E), w'[k]? = some q → ∃ q', w[k]? = some q' ∧ q'.1 = q.1 := by
    intro k q hq
    have h1 : (w.map (fun q => q.1))[k]? = some q.1 := by rw [he, List.getElem?_map, hq]; rfl
    rw [List.getElem?_map] at h1
    cases hw : w[k]? with
    | none => rw [hw] at h1; cases h1
    | some q' => rw [hw] at h1; exact ⟨q', rfl, Option.some.inj h1⟩
  refine ⟨fun i j p q hp hq hpq => ?_, fun k q hq => ?_⟩
  · obtain ⟨p', hp', e1⟩ := key i p hp
    obtain ⟨q', hq', e2⟩ := key j q hq
    exact h.1 i j p' q' hp' hq' (by rw [e1, e2, hpq])
  · obtain ⟨q', hq', e2⟩ := key k q hq
    rw [← e2]
    exact h.2 k q' hq'
theorem mDD.at {G : mG} (h : mDD G) (o : Nat → Int32) (F : Nat → Nat → Int32) (sz : Nat) : va_D (mA G sz) (mW G o F) :=
  va_D_adr (mW_adr G _ o _ F) ((va_D.self h))
theorem mA.le {G : mG} {a b q : Nat} (h : mA G a q) (hab : b ≤ a) : mA G b q := by
  rcases h with h | h
  · exact Or.inl h
  · exact Or.inr (Nat.le_trans hab h)
theorem mA.up {G : mG} {b q : Nat} (h : b ≤ q) : mA G b q := Or.inr h
theorem mO_s0 (G : mG) (o : Nat → Int32) (x : Int32) : (mO G o).set 0 (.int x) = mO G (upd o 0 x) := rfl
theorem mO_s7 (G : mG) (o : Nat → Int32) (x : Int32) : (mO G o).set 7 (.int x) = mO G (upd o 7 x) := rfl
theorem mO_s14 (G : mG) (o : Nat → Int32) (x : Int32) : (mO G o).set 14 (.int x) = mO G (upd o 14 x) := rfl
theorem mO_s16 (G : mG) (o : Nat → Int32) (x : Int32) : (mO G o).set 16 (.int x) = mO G (upd o 16 x) := rfl
theorem mO_s22 (G : mG) (o : Nat → Int32) (x : Int32) : (mO G o).set 22 (.int x) = mO G (upd o 22 x) := rfl
theorem mO_s23 (G : mG) (o : Nat → Int32) (x : Int32) : (mO G o).set 23 (.int x) = mO G (upd o 23 x) := rfl
theorem mO_s24 (G : mG) (o : Nat → Int32) (x : Int32) : (mO G o).set 24 (.int x) = mO G (upd o 24 x) := rfl
theorem mO_s25 (G : mG) (o : Nat → Int32) (x : Int32) : (mO G o).set 25 (.int x) = mO G (upd o 25 x) := rfl
theorem mO_s26 (G : mG) (o : Nat → Int32) (x : Int32) : (mO G o).set 26 (.int x) = mO G (upd o 26 x) := rfl
theorem mO_s27 (G : mG) (o : Nat → Int32) (x : Int32) : (mO G o).set 27 (.int x) = mO G (upd o 27 x) := rfl
theorem mO_s28 (G : mG) (o : Nat → Int32) (x : Int32) : (mO G o).set 28 (.int x) = mO G (upd o 28 x) := rfl
theorem mO_s31 (G : mG) (o : Nat → Int32) (x : Int32) : (mO G o).set 31 (.int x) = mO G (upd o 31 x) := rfl
theorem mO_s32 (G : mG) (o : Nat → Int32) (x : Int32) : (mO G o).set 32 (.int x) = mO G (upd o 32 x) := rfl
theorem mO_s33 (G : mG) (o : Nat → Int32) (x : Int32) : (mO G o).set 33 (.int x) = mO G (upd o 33 x) := rfl
theorem mO_s34 (G : mG) (o : Nat → Int32) (x : Int32) : (mO G o).set 34 (.int x) = mO G (upd o 34 x) := rfl
theorem mO_s35 (G : mG) (o : Nat → Int32) (x : Int32) : (mO G o).set 35 (.int x) = mO G (upd o 35 x) := rfl
theorem mO_s39 (G : mG) (o : Nat → Int32) (x : Int32) : (mO G o).set 39 (.int x) = mO G (upd o 39 x) := rfl
theorem mO_s42 (G : mG) (o : Nat → Int32) (x : Int32) : (mO G o).set 42 (.int x) = mO G (upd o 42 x) := rfl
theorem mO_s45 (G : mG) (o : Nat → Int32) (x : Int32) : (mO G o).set 45 (.int x) = mO G (upd o 45 x) := rfl
theorem mO_s47 (G : mG) (o : Nat → Int32) (x : Int32) : (mO G o).set 47 (.int x) = mO G (upd o 47 x) := rfl
theorem mO_s48 (G : mG) (o : Nat → Int32) (x : Int32) : (mO G o).set 48 (.int x) = mO G (upd o 48 x) := rfl
theorem mO_s51 (G : mG) (o : Nat → Int32) (x : Int32) : (mO G o).set 51 (.int x) = mO G (upd o 51 x) := rfl
theorem mO_s56 (G : mG) (o : Nat → Int32) (x : Int32) : (mO G o).set 56 (.int x) = mO G (upd o 56 x) := rfl
theorem mO_s61 (G : mG) (o : Nat → Int32) (x : Int32) : (mO G o).set 61 (.int x) = mO G (upd o 61 x) := rfl
theorem mO_s62 (G : mG) (o : Nat → Int32) (x : Int32) : (mO G o).set 62 (.int x) = mO G (upd o 62 x) := rfl
theorem mO_s63 (G : mG) (o : Nat → Int32) (x : Int32) : (mO G o).set 63 (.int x) = mO G (upd o 63 x) := rfl
theorem mO_s64 (G : mG) (o : Nat → Int32) (x : Int32) : (mO G o).set 64 (.int x) = mO G (upd o 64 x) := rfl
theorem mO_s65 (G : mG) (o : Nat → Int32) (x : Int32) : (mO G o).set 65 (.int x) = mO G (upd o 65 x) := rfl
theorem mO_s66 (G : mG) (o : Nat → Int32) (x : Int32) : (mO G o).set 66 (.int x) = mO G (upd o 66 x) := rfl
theorem mO_s67 (G : mG) (o : Nat → Int32) (x : Int32) : (mO G o).set 67 (.int x) = mO G (upd o 67 x) := rfl
theorem mW_a1 (G : mG) (o : Nat → Int32) (F : Nat → Nat → Int32) (j : Nat) (x : Int32) : (mW G o F).set 1 (md G 1, .inl (mI G, 120, .inl (upd (F 1) j x))) = mW G o (fput F 1 j x) := rfl
theorem mW_a2 (G : mG) (o : Nat → Int32) (F : Nat → Nat → Int32) (j : Nat) (x : Int32) : (mW G o F).set 2 (md G 2, .inl (mI G, 120, .inl (upd (F 2) j x))) = mW G o (fput F 2 j x) := rfl
theorem mW_a3 (G : mG) (o : Nat → Int32) (F : Nat → Nat → Int32) (j : Nat) (x : Int32) : (mW G o F).set 3 (md G 3, .inl (mI G, 120, .inl (upd (F 3) j x))) = mW G o (fput F 3 j x) := rfl
theorem mW_a4 (G : mG) (o : Nat → Int32) (F : Nat → Nat → Int32) (j : Nat) (x : Int32) : (mW G o F).set 4 (md G 4, .inl (mI G, 720, .inl (upd (F 4) j x))) = mW G o (fput F 4 j x) := rfl
theorem mW_a5 (G : mG) (o : Nat → Int32) (F : Nat → Nat → Int32) (j : Nat) (x : Int32) : (mW G o F).set 5 (md G 5, .inl (mI G, 720, .inl (upd (F 5) j x))) = mW G o (fput F 5 j x) := rfl
theorem mW_a6 (G : mG) (o : Nat → Int32) (F : Nat → Nat → Int32) (j : Nat) (x : Int32) : (mW G o F).set 6 (md G 6, .inl (mI G, 120, .inl (upd (F 6) j x))) = mW G o (fput F 6 j x) := rfl
theorem mW_a8 (G : mG) (o : Nat → Int32) (F : Nat → Nat → Int32) (j : Nat) (x : Int32) : (mW G o F).set 7 (md G 8, .inl (mI G, 602, .inl (upd (F 8) j x))) = mW G o (fput F 8 j x) := rfl
theorem mW_a9 (G : mG) (o : Nat → Int32) (F : Nat → Nat → Int32) (j : Nat) (x : Int32) : (mW G o F).set 8 (md G 9, .inl (mI G, 602, .inl (upd (F 9) j x))) = mW G o (fput F 9 j x) := rfl
theorem mW_a10 (G : mG) (o : Nat → Int32) (F : Nat → Nat → Int32) (j : Nat) (x : Int32) : (mW G o F).set 9 (md G 10, .inl (mI G, 602, .inl (upd (F 10) j x))) = mW G o (fput F 10 j x) := rfl
theorem mW_a11 (G : mG) (o : Nat → Int32) (F : Nat → Nat → Int32) (j : Nat) (x : Int32) : (mW G o F).set 10 (md G 11, .inl (mI G, 602, .inl (upd (F 11) j x))) = mW G o (fput F 11 j x) := rfl
theorem mW_a12 (G : mG) (o : Nat → Int32) (F : Nat → Nat → Int32) (j : Nat) (x : Int32) : (mW G o F).set 11 (md G 12, .inl (mI G, 3612, .inl (upd (F 12) j x))) = mW G o (fput F 12 j x) := rfl
theorem mW_a13 (G : mG) (o : Nat → Int32) (F : Nat → Nat → Int32) (j : Nat) (x : Int32) : (mW G o F).set 12 (md G 13, .inl (mI G, 3612, .inl (upd (F 13) j x))) = mW G o (fput F 13 j x) := rfl
theorem mW_a15 (G : mG) (o : Nat → Int32) (F : Nat → Nat → Int32) (j : Nat) (x : Int32) : (mW G o F).set 13 (md G 15, .inl (mI G, 150, .inl (upd (F 15) j x))) = mW G o (fput F 15 j x) := rfl
theorem mW_a17 (G : mG) (o : Nat → Int32) (F : Nat → Nat → Int32) (j : Nat) (x : Int32) : (mW G o F).set 14 (md G 17, .inl (mI G, 200000, .inl (upd (F 17) j x))) = mW G o (fput F 17 j x) := rfl
theorem mW_a18 (G : mG) (o : Nat → Int32) (F : Nat → Nat → Int32) (j : Nat) (x : Int32) : (mW G o F).set 15 (md G 18, .inl (mI G, 200000, .inl (upd (F 18) j x))) = mW G o (fput F 18 j x) := rfl
theorem mW_a19 (G : mG) (o : Nat → Int32) (F : Nat → Nat → Int32) (j : Nat) (x : Int32) : (mW G o F).set 16 (md G 19, .inl (mI G, 300, .inl (upd (F 19) j x))) = mW G o (fput F 19 j x) := rfl
theorem mW_a20 (G : mG) (o : Nat → Int32) (F : Nat → Nat → Int32) (j : Nat) (x : Int32) : (mW G o F).set 17 (md G 20, .inl (mI G, 300, .inl (upd (F 20) j x))) = mW G o (fput F 20 j x) := rfl
theorem mW_a21 (G : mG) (o : Nat → Int32) (F : Nat → Nat → Int32) (j : Nat) (x : Int32) : (mW G o F).set 18 (md G 21, .inl (mI G, 300, .inl (upd (F 21) j x))) = mW G o (fput F 21 j x) := rfl
theorem mW_a29 (G : mG) (o : Nat → Int32) (F : Nat → Nat → Int32) (j : Nat) (x : Int32) : (mW G o F).set 19 (md G 29, .inl (mI G, 1501, .inl (upd (F 29) j x))) = mW G o (fput F 29 j x) := rfl
theorem mW_a30 (G : mG) (o : Nat → Int32) (F : Nat → Nat → Int32) (j : Nat) (x : Int32) : (mW G o F).set 20 (md G 30, .inl (mI G, 1501, .inl (upd (F 30) j x))) = mW G o (fput F 30 j x) := rfl
theorem mW_a36 (G : mG) (o : Nat → Int32) (F : Nat → Nat → Int32) (j : Nat) (x : Int32) : (mW G o F).set 21 (md G 36, .inl (mI G, 300, .inl (upd (F 36) j x))) = mW G o (fput F 36 j x) := rfl
theorem mW_a37 (G : mG) (o : Nat → Int32) (F : Nat → Nat → Int32) (j : Nat) (x : Int32) : (mW G o F).set 22 (md G 37, .inl (mI G, 300, .inl (upd (F 37) j x))) = mW G o (fput F 37 j x) := rfl
theorem mW_a38 (G : mG) (o : Nat → Int32) (F : Nat → Nat → Int32) (j : Nat) (x : Int32) : (mW G o F).set 23 (md G 38, .inl (mI G, 8000, .inl (upd (F 38) j x))) = mW G o (fput F 38 j x) := rfl
theorem mW_a40 (G : mG) (o : Nat → Int32) (F : Nat → Nat → Int32) (j : Nat) (x : Int32) : (mW G o F).set 24 (md G 40, .inl (mI G, 150, .inl (upd (F 40) j x))) = mW G o (fput F 40 j x) := rfl
theorem mW_a41 (G : mG) (o : Nat → Int32) (F : Nat → Nat → Int32) (j : Nat) (x : Int32) : (mW G o F).set 25 (md G 41, .inl (mI G, 150, .inl (upd (F 41) j x))) = mW G o (fput F 41 j x) := rfl
theorem mW_a43 (G : mG) (o : Nat → Int32) (F : Nat → Nat → Int32) (j : Nat) (x : Int32) : (mW G o F).set 26 (md G 43, .inl (mI G, 120, .inl (upd (F 43) j x))) = mW G o (fput F 43 j x) := rfl
theorem mW_a44 (G : mG) (o : Nat → Int32) (F : Nat → Nat → Int32) (j : Nat) (x : Int32) : (mW G o F).set 27 (md G 44, .inl (mI G, 120, .inl (upd (F 44) j x))) = mW G o (fput F 44 j x) := rfl
theorem mW_a46 (G : mG) (o : Nat → Int32) (F : Nat → Nat → Int32) (j : Nat) (x : Int32) : (mW G o F).set 28 (md G 46, .inl (mB G, 400, .inl (upd (F 46) j x))) = mW G o (fput F 46 j x) := rfl
theorem mW_a49 (G : mG) (o : Nat → Int32) (F : Nat → Nat → Int32) (j : Nat) (x : Int32) : (mW G o F).set 29 (md G 49, .inl (mZ G, 300, .inl (upd (F 49) j x))) = mW G o (fput F 49 j x) := rfl
theorem mW_a50 (G : mG) (o : Nat → Int32) (F : Nat → Nat → Int32) (j : Nat) (x : Int32) : (mW G o F).set 30 (md G 50, .inl (mI G, 12, .inl (upd (F 50) j x))) = mW G o (fput F 50 j x) := rfl
theorem mW_a52 (G : mG) (o : Nat → Int32) (F : Nat → Nat → Int32) (j : Nat) (x : Int32) : (mW G o F).set 31 (md G 52, .inl (mI G, 400, .inl (upd (F 52) j x))) = mW G o (fput F 52 j x) := rfl
theorem mW_a53 (G : mG) (o : Nat → Int32) (F : Nat → Nat → Int32) (j : Nat) (x : Int32) : (mW G o F).set 32 (md G 53, .inl (mI G, 400, .inl (upd (F 53) j x))) = mW G o (fput F 53 j x) := rfl
theorem mW_a54 (G : mG) (o : Nat → Int32) (F : Nat → Nat → Int32) (j : Nat) (x : Int32) : (mW G o F).set 33 (md G 54, .inl (mI G, 400, .inl (upd (F 54) j x))) = mW G o (fput F 54 j x) := rfl
theorem mW_a55 (G : mG) (o : Nat → Int32) (F : Nat → Nat → Int32) (j : Nat) (x : Int32) : (mW G o F).set 34 (md G 55, .inl (mI G, 2400, .inl (upd (F 55) j x))) = mW G o (fput F 55 j x) := rfl
theorem mW_a57 (G : mG) (o : Nat → Int32) (F : Nat → Nat → Int32) (j : Nat) (x : Int32) : (mW G o F).set 35 (md G 57, .inl (mI G, 700, .inl (upd (F 57) j x))) = mW G o (fput F 57 j x) := rfl
theorem mW_a58 (G : mG) (o : Nat → Int32) (F : Nat → Nat → Int32) (j : Nat) (x : Int32) : (mW G o F).set 36 (md G 58, .inl (mI G, 700, .inl (upd (F 58) j x))) = mW G o (fput F 58 j x) := rfl
theorem mW_a59 (G : mG) (o : Nat → Int32) (F : Nat → Nat → Int32) (j : Nat) (x : Int32) : (mW G o F).set 37 (md G 59, .inl (mI G, 700, .inl (upd (F 59) j x))) = mW G o (fput F 59 j x) := rfl
theorem mW_a60 (G : mG) (o : Nat → Int32) (F : Nat → Nat → Int32) (j : Nat) (x : Int32) : (mW G o F).set 38 (md G 60, .inl (mI G, 700, .inl (upd (F 60) j x))) = mW G o (fput F 60 j x) := rfl
theorem m_v {a b : Int32} (h : a = b) : some (Value.int a) = some (Value.int b) := by rw [h]
section M
variable {p : Program} {l : Launch} {e : Env} {R : Room} {s : State} {m : MethodId} {args : Array Value} {below : List Frame} {meth : Method} {c : Code} {H : Heap} {locs : List Loc} {cells slots : Nat} {Q : State → Prop}
variable {cc : ByteArray} {pc : Nat} {ls : Array Slot} {rest : List Value} {Ts : List Cond} {G : mG} {o : Nat → Int32} {F : Nat → Nat → Int32} {sz : Nat} {H0 : Heap}
theorem m_get (hexec : p.tables.exec = Jvm.exec) (hb : c.code = cc) {index : Nat} (hts : ∀ w ∈ Ts, w.before args s = true) (hin : ∀ w ∈ u_ws RX8 TX8 68, w ∈ Ts) (hown : s.vm.findClass RX8 = some m.cls) (hK : mK G s) (hP : mP G o F H) (k : Nat) (hk : k < 68) (hlink : (Cond.fieldLink RX8 index RX8 (TX8 k).2.1 (TX8 k).2.2.1).before args s = true) (h1 : (TX8 k).1 = RX8) {v : Value} (hv : (mO G o)[k]? = some v) (hdg : decode cc pc = .ok (.getfield index, 3))
    (kk : W p l e R s m args below meth c H locs cells slots Q (F0 m (pc + 3) ls (v :: rest))) : W p l e R s m args below meth c H locs cells slots Q (F0 m pc ls (.ref (mh G) :: rest)) :=
  va_get (ci := 8) (C := RX8) (T := TX8) (N := 68) (ref := RX8) hexec hb hts hin hown hK hP 0 rfl rfl k hk hlink (fun x hx => by rw [h1] at hx; exact hx) hv hdg kk
theorem m_put (hexec : p.tables.exec = Jvm.exec) (hb : c.code = cc) {index : Nat} (hts : ∀ w ∈ Ts, w.before args s = true) (hin : ∀ w ∈ u_ws RX8 TX8 68, w ∈ Ts) (hown : s.vm.findClass RX8 = some m.cls) (hK : mK G s) (hP : mP G o F H) (hDD : mDD G) (hS : va_S (mA G sz) H0 H locs) (k : Nat) (hk : k < 68) (hlink : (Cond.fieldLink RX8 index RX8 (TX8 k).2.1 (TX8 k).2.2.1).before args s = true) (h1 : (TX8 k).1 = RX8) (hfin : (TX8 k).2.2.2 = false) {ty : FieldType} {x : Int32} (hd : parseFieldDescriptor (TX8 k).2.2.1 = some ty) (hn : narrow ty (.int x) = .int x) (hfit : fits ty (.int x) = true) (hset : (mO G o).set k (.int x) = mO G (upd o k x)) (hdg : decode cc pc = .ok (.putfield index, 3))
    (kk : ∀ (H : Heap) (locs : List Loc), mP G (upd o k x) F H → va_S (mA G sz) H0 H locs → W p l e R s m args below meth c H locs cells slots Q (F0 m (pc + 3) ls rest)) : W p l e R s m args below meth c H locs cells slots Q (F0 m pc ls (.int x :: .ref (mh G) :: rest)) := by
  refine va_put (ci := 8) (C := RX8) (T := TX8) (N := 68) (ref := RX8) hexec hb hts hin tyX8 tyX8_ok nmX8 hown hK hP (hDD.at o F sz) hS 0 rfl rfl k hk hlink (fun x hx => by rw [h1] at hx; exact hx) hfin hd hn hfit hk hdg (fun H1 l1 hP1 _ hS1 => kk H1 l1 ?_ hS1)
  rw [hset] at hP1
  exact hP1
theorem m_ald (hexec : p.tables.exec = Jvm.exec) (hb : c.code = cc) (hK : mK G s) (hP : mP G o F H) (q k : Nat) {n : Nat} (ha : (mW G o F)[q]? = some (md G k, .inl (mI G, n, .inl (F k)))) {j : Nat} (hj : j < n) (hn : n < 2 ^ 31) {v : Int32} (hv : F k j = v) (hdg : decode cc pc = .ok (.iaload, 1))
    (kk : W p l e R s m args below meth c H locs cells slots Q (F0 m (pc + 1) ls (.int v :: rest))) : W p l e R s m args below meth c H locs cells slots Q (F0 m pc ls (.int (nI j) :: .ref (md G k) :: rest)) := by
  refine va_iald hexec hb hK hP q 0 ha rfl (vp_in_nI hj hn) hdg ?_
  rw [nI_clamp (by omega), hv]
  exact kk
theorem m_ast (hexec : p.tables.exec = Jvm.exec) (hb : c.code = cc) (hK : mK G s) (hP : mP G o F H) (hDD : mDD G) (hS : va_S (mA G sz) H0 H locs) (q k : Nat) {n : Nat} (ha : (mW G o F)[q]? = some (md G k, .inl (mI G, n, .inl (F k)))) {j : Nat} {x : Int32} (hj : j < n) (hn : n < 2 ^ 31) (hset : (mW G o F).set q (md G k, .inl (mI G, n, .inl (upd (F k) j x))) = mW G o (fput F k j x)) (hdg : decode cc pc = .ok (.iastore, 1))
    (kk : ∀ (H : Heap) (locs : List Loc), mP G o (fput F k j x) H → va_S (mA G sz) H0 H locs → W p l e R s m args below meth c H locs cells slots Q (F0 m (pc + 1) ls rest)) : W p l e R s m args below meth c H locs cells slots Q (F0 m pc ls (.int x :: .int (nI j) :: .ref (md G k) :: rest)) := by
  refine va_iast hexec hb hK hP (hDD.at o F sz) hS q 0 ha rfl (vp_in_nI hj hn) hdg (fun H1 l1 hP1 _ hS1 => kk H1 l1 ?_ hS1)
  rw [nI_clamp (by omega), hset] at hP1
  exact hP1
end M
/-- what a method of the second program finds, and leaves -/
def mPc (G : mG) (o : Nat → Int32) (F : Nat → Nat → Int32) (sz : Nat) (av : List Value) : Array Value → State → Prop := va_Pc av (fun U => U.heap.size = sz ∧ mP G o F U.heap ∧ mK G U)
abbrev mS : Type := (Nat → Int32) × (Nat → Nat → Int32)
def mB2 (G : mG) : mS → State → Prop := fun u t => mP G u.1 u.2 t.heap ∧ mK G t
def mQi (G : mG) (sz : Nat) (post : Int32 → mS → Prop) : Array Value → State → Outcome → State → Prop := va_Qi post (mB2 G) (mA G sz)
def mQl (G : mG) (sz : Nat) (post : Int64 → mS → Prop) : Array Value → State → Outcome → State → Prop := va_Ql post (mB2 G) (mA G sz)
def mQv (G : mG) (sz : Nat) (post : mS → Prop) : Array Value → State → Outcome → State → Prop := va_Qv post (mB2 G) (mA G sz)
section MC
variable {p : Program} {l : Launch} {e : Env} {R : Room} {s : State} {m : MethodId} {args : Array Value} {below : List Frame} {meth : Method} {c : Code} {H : Heap} {locs : List Loc} {cells slots : Nat} {Q : State → Prop}
variable {cc : ByteArray} {pc : Nat} {ls : Array Slot} {st0 rest As : List Value} {Ts ws : List Cond} {G : mG} {o : Nat → Int32} {F : Nat → Nat → Int32} {H0 : Heap} {y : MethodName} {rm : Room} {nL n index maxL : Nat} {bytes : ByteArray} {ret : Option FieldType}
theorem m_pre (hP : mP G o F H) (hK : mK G s) : ∀ U : State, U.heap = H → s.WarmedH U.vm → U.heap.size = H.size ∧ mP G o F U.heap ∧ mK G U :=
  fun U hU hW => ⟨by rw [hU], by rw [hU]; exact hP, va_K.moved hW.alike hK⟩
theorem m_fb (av : List Value) : ∀ (a : Array Value) (U : State) (g : JFrame) (mk : MethodId), mPc G o F H.size av a U → mPc G o F H.size av a (U.calling g mk a) := fun a U g mk q => by
  obtain ⟨q0, q1, qP, qK⟩ := q
  exact ⟨q0, q1, qP, va_K.moved (u := U) (U := U.calling g mk a) (Vm.Alike.refl U.vm) qK⟩
end MC
