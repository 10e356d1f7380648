
/-! ===== ground: the class of int arrays is one; the static table; small facts ===== -/
theorem vk_int {D : va_G} {cl : List vw_C} {tys : List (ClassId × FieldType)} {U : State} {c1 c2 : ClassId} {i j : Nat} (h : va_K D cl tys U) (hi : tys[i]? = some (c1, .int)) (hj : tys[j]? = some (c2, .int)) : c1 = c2 := by
  have a := va_nm_int (h.2 i _ hi).2
  have b := va_nm_int (h.2 j _ hj).2
  rw [a] at b
  exact Option.some.inj b
def pkI (j : Nat) : Int32 := [0, 0, 0, 1, 2, 0, 1, 2, 2, 3, 2, 2].getD j 0
def ZT (tk : Nat) (A : Nat → Prop) (U : State) (H : Heap) : Prop := va_Z "PolarTypes$Tree" "PARTS_OF_KIND" "[I" (.ref tk) A U H ∧ va_T .int tk 12 (fun j => .int (pkI j)) A U H
theorem ZT.calling {tk : Nat} {A : Nat → Prop} {U : State} {H : Heap} (h : ZT tk A U H) (g) (mk) (a) : ZT tk A (U.calling g mk a) H := ⟨va_Z.moved (Vm.Alike.refl U.vm) h.1, va_T.moved (Vm.Alike.refl U.vm) h.2⟩
theorem ZT.call {tk : Nat} {A0 A1 : Nat → Prop} {s U : State} {H : Heap} {locs : List Loc} (h : ZT tk A0 s s.heap) (hS : va_S A0 s.heap H locs) (hU : U.heap = H) (hW : s.WarmedH U.vm) (hF : ∀ q, A1 q → A0 q) : ZT tk A1 U U.heap := by
  rw [hU]
  exact ⟨va_Z.moved hW.alike ((h.1.kept hS.2.1).narrow hF), va_T.moved hW.alike ((h.2.kept hS.2.1).narrow hF)⟩
theorem tb_out (x : Int32) (lo hi : Int) (h : ∀ z : Int, lo ≤ z → z ≤ hi → x.toInt = z → False) : x.toInt < lo ∨ hi < x.toInt := by
  rcases Int.lt_or_le x.toInt lo with a | a
  · exact Or.inl a
  · rcases Int.lt_or_le hi x.toInt with b | b
    · exact Or.inr b
    · exact (h x.toInt a b rfl).elim
theorem i_lt {x y : Int32} : x < y ↔ x.toInt < y.toInt := Int32.lt_iff_toInt_lt
theorem i_le {x y : Int32} : x ≤ y ↔ x.toInt ≤ y.toInt := Int32.le_iff_toInt_le
theorem cp_ok {f g : Nat → Int32} {n j : Nat} (hj : j < n) (hn : n < 2 ^ 31) : va_cpy f g (0 : Int32).toNatClampNeg (0 : Int32).toNatClampNeg (nI n).toNatClampNeg j = f j := by
  have h0 : (0 : Int32).toNatClampNeg = 0 := rfl
  rw [h0, nI_clamp hn]
  unfold va_cpy
  rw [if_pos (by omega)]
  congr 1
  omega
/-- a loop of the machine, by a number that falls -/
theorem w_loop {p : Program} {l : Launch} {e : Env} {R : Room} {s : State} {m : MethodId} {args : Array Value} {below : List Frame} {meth : Method} {c : Code} {Q : State → Prop} (Inv : Nat → Heap → List Loc → Nat → Nat → JFrame → Prop)
    (h0 : ∀ H locs k sl g, Inv 0 H locs k sl g → W p l e R s m args below meth c H locs k sl Q g)
    (hs : ∀ n, (∀ H locs k sl g, Inv n H locs k sl g → W p l e R s m args below meth c H locs k sl Q g) → ∀ H locs k sl g, Inv (n + 1) H locs k sl g → W p l e R s m args below meth c H locs k sl Q g) :
    ∀ n H locs k sl g, Inv n H locs k sl g → W p l e R s m args below meth c H locs k sl Q g := by
  intro n
  induction n with
  | zero => exact h0
  | succ n ih => exact hs n ih
/-! ===== a Row of k numbers f: what its methods answer ===== -/
def gA (k n : Nat) : Nat := if k < n then 0 else 1
def gS (k n : Nat) : Nat := if k < n then 0 else 2 * k + 4
/-- how many places a row has behind add, at size k with n places -/
def gC (k n : Nat) : Nat := if k < n then n else 2 * k + 4
theorem gA_n {k n : Nat} (h : ¬ k < n) : gA k n = 1 := if_neg h
theorem gS_n {k n : Nat} (h : ¬ k < n) : gS k n = 2 * k + 4 := if_neg h
theorem gC_n {k n : Nat} (h : ¬ k < n) : gC k n = 2 * k + 4 := if_neg h
theorem gC_p {k n : Nat} (h : k < n) : gC k n = n := if_pos h
theorem gC_lt {k n : Nat} : k + 1 ≤ gC k n := by
  unfold gC
  by_cases h : k < n
  · rw [if_pos h]
    exact h
  · rw [if_neg h]
    omega
def rget (f : Nat → Int32) (k : Nat) (i : Int32) : Int32 := if i < 0 then -9 else if nI k ≤ i then -9 else f i.toNatClampNeg
def rset (f : Nat → Int32) (k : Nat) (i x : Int32) : Nat → Int32 := if i < 0 then f else if nI k ≤ i then f else upd f i.toNatClampNeg x
def rholds (k : Nat) (i : Int32) : Int32 := if i < 0 then 0 else if nI k ≤ i then 0 else 1
def rcut (k : Nat) (i : Int32) : Nat := if i < 0 then k else if nI k ≤ i then k else i.toNatClampNeg
theorem rin {i : Int32} {k n : Nat} (h0 : ¬ i < 0) (h1 : ¬ nI k ≤ i) (hk : k ≤ n) (hn : n < 2 ^ 31) : vp_in i n := by
  rw [vp_in_iff]
  rw [i_lt] at h0
  rw [i_le, nI_toInt (by omega)] at h1
  have e0 : (0 : Int32).toInt = 0 := rfl
  omega
theorem rcut_le (k : Nat) (i : Int32) (hk : k < 2 ^ 31) : rcut k i ≤ k := by
  unfold rcut
  by_cases h0 : i < 0
  · rw [if_pos h0]
    exact Nat.le_refl k
  · by_cases h1 : nI k ≤ i
    · rw [if_neg h0, if_pos h1]
      exact Nat.le_refl k
    · rw [if_neg h0, if_neg h1]
      obtain ⟨j, hj, e⟩ := vp_in_of (rin h0 h1 (Nat.le_refl k) hk) hk
      rw [e, nI_clamp (by omega)]
      omega
theorem rcut_nI {k : Nat} {i : Int32} (h0 : ¬ i < 0) (h1 : ¬ nI k ≤ i) (hk : k < 2 ^ 31) : i = nI (rcut k i) := by
  obtain ⟨j, hj, e⟩ := vp_in_of (rin h0 h1 (Nat.le_refl k) hk) hk
  unfold rcut
  rw [if_neg h0, if_neg h1, e, nI_clamp (by omega)]

