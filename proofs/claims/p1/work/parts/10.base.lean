
/-! ===== ground: the class of int arrays is one; the static table; small facts ===== -/
theorem vk_int {D : va_G} {cl : List vw_C} {tys : List (ClassId × FieldType)} {U : State} {c1 c2 : ClassId} {i j : Nat} (h : va_K D cl tys U) (hi : tys[i]? = some (c1, .int)) (hj : tys[j]? = some (c2, .int)) : c1 = c2 := by
  have a := va_nm_int (h.2 i _ hi).2
  have b := va_nm_int (h.2 j _ hj).2
  rw [a] at b
  exact Option.some.inj b
def pkI (j : Nat) : Int32 := [0, 0, 0, 1, 2, 0, 1, 2, 2, 3, 2, 2].getD j 0
def ZT (tk : Nat) (A : Nat → Prop) (U : State) (H : Heap) : Prop := va_Z "PolarTypes$Tree" "PARTS_OF_KIND" "[I" (.ref tk) A U H ∧ va_T .int tk 12 (fun j => .int (pkI j)) A U H
theorem ZT.calling {tk : Nat} {A : Nat → Prop} {U : State} {H : Heap} (h : ZT tk A U H) (g) (mk) (a) : ZT tk A (U.calling g mk a) H := ⟨va_Z.moved (Vm.Alike.refl U.vm) h.1, va_T.moved (Vm.Alike.refl U.vm) h.2⟩
theorem ZT.call {tk : Nat} {A0 A1 : Nat → Prop} {s U : State} {H : Heap} {locs : List Loc} (h : ZT tk A0 s s.heap) (hS : va_S A0 s.heap H locs) (hU : U.heap = H) (hW : s.WarmedH U.vm) (hF : ∀ q, A1 q → A0 q) : ZT tk A1 U U.heap := by
  rw [hU]
  exact ⟨va_Z.moved hW.alike ((h.1.kept hS.2.1).narrow hF), va_T.moved hW.alike ((h.2.kept hS.2.1).narrow hF)⟩
theorem tb_out (x : Int32) (lo hi : Int) (h : ∀ z : Int, lo ≤ z → z ≤ hi → x.toInt = z → False) : x.toInt < lo ∨ hi < x.toInt := by
  rcases Int.lt_or_le x.toInt lo with a | a
  · exact Or.inl a
  · rcases Int.lt_or_le hi x.toInt with b | b
    · exact Or.inr b
    · exact (h x.toInt a b rfl).elim
theorem i_lt {x y : Int32} : x < y ↔ x.toInt < y.toInt := Int32.lt_iff_toInt_lt
theorem i_le {x y : Int32} : x ≤ y ↔ x.toInt ≤ y.toInt := Int32.le_iff_toInt_le
theorem i_eq {x y : Int32} : x = y ↔ x.toInt = y.toInt := Int32.toInt_inj.symm
theorem cp_ok {f g : Nat → Int32} {n j : Nat} (hj : j < n) (hn : n < 2 ^ 31) : va_cpy f g (0 : Int32).toNatClampNeg (0 : Int32).toNatClampNeg (nI n).toNatClampNeg j = f j := by
  have h0 : (0 : Int32).toNatClampNeg = 0 := rfl
  rw [h0, nI_clamp hn]
  unfold va_cpy
  rw [if_pos (by omega)]
  congr 1
  omega
/-- a loop of the machine, by a number that falls -/
theorem w_loop {p : Program} {l : Launch} {e : Env} {R : Room} {s : State} {m : MethodId} {args : Array Value} {below : List Frame} {meth : Method} {c : Code} {Q : State → Prop} (Inv : Nat → Heap → List Loc → Nat → Nat → JFrame → Prop)
    (h0 : ∀ H locs k sl g, Inv 0 H locs k sl g → W p l e R s m args below meth c H locs k sl Q g)
    (hs : ∀ n, (∀ H locs k sl g, Inv n H locs k sl g → W p l e R s m args below meth c H locs k sl Q g) → ∀ H locs k sl g, Inv (n + 1) H locs k sl g → W p l e R s m args below meth c H locs k sl Q g) :
    ∀ n H locs k sl g, Inv n H locs k sl g → W p l e R s m args below meth c H locs k sl Q g := by
  intro n
  induction n with
  | zero => exact h0
  | succ n ih => exact hs n ih
theorem w_cut {p : Program} {l : Launch} {e : Env} {R : Room} {s : State} {m : MethodId} {args : Array Value} {below : List Frame} {meth : Method} {c : Code} {Q : State → Prop} {H0 : Heap} {l0 : List Loc} {k0 s0 : Nat} {g0 : JFrame} (P : Heap → List Loc → Nat → Nat → JFrame → Prop)
    (h1 : ∀ H locs k sl g, P H locs k sl g → W p l e R s m args below meth c H locs k sl Q g)
    (h2 : (∀ H locs k sl g, P H locs k sl g → W p l e R s m args below meth c H locs k sl Q g) → W p l e R s m args below meth c H0 l0 k0 s0 Q g0) : W p l e R s m args below meth c H0 l0 k0 s0 Q g0 := h2 h1
theorem vin (i : Int32) (n : Nat) (h : ¬ (i < 0 ∨ n ≤ i.toNatClampNeg)) : vp_in i n := h
theorem i_le_mono {x a b : Int32} (h : x ≤ a) (hab : a ≤ b) : x ≤ b := Int32.le_trans h hab
/-! ===== what the answers of a fresh object are, as the class and as the model say it ===== -/
def p_isK (k : Int32) : Int32 := if k < 0 then 0 else if 12 ≤ k then 0 else 1
def p_hasL (k : Int32) : Int32 := if k = 2 then 1 else if k = 3 then 1 else if k = 6 then 1 else if k = 7 then 1 else if ¬ k = 8 then 0 else 1
def p_isL (x : Int32) : Int32 := if x < 0 then 0 else if 26 ≤ x then 0 else 1
def p_fit (k v : Int32) : Int32 := if ¬ k = 1 then (if p_hasL k = 0 then 1 else if p_isL v = 0 then 0 else 1) else if v = 0 then 1 else if ¬ v = 1 then 0 else 1
def p_parts (k : Int32) : Int32 := if p_isK k = 0 then 0 else pkI k.toNatClampNeg
def p_canB (n : Int32) : Int32 := if n < 1 then 1 else 0
def p_node (k v : Int32) : Int32 := if p_isK k = 0 then -1 else if ¬ p_fit k v = 0 then (if ¬ p_canB (p_parts k) = 0 then 0 else -1) else -1
def p_in (v a b : Int32) : Int32 := if v < a then 0 else if b < v then 0 else 1
def m_parts (k : Int32) : Int32 := if k = 3 then 1 else if k = 4 then 2 else if k = 5 then 0 else if k = 6 then 1 else if k = 7 then 2 else if k = 8 then 2 else if k = 9 then 3 else if k = 10 then 2 else if k = 11 then 2 else 0
def m_end (k : Int32) : Int32 := if m_parts k ≤ 0 then 0 else -1
def m_node (k v : Int32) : Int32 := if p_in k 0 11 = 0 then -1 else if ¬ k = 1 then (if p_hasL k = 0 then m_end k else if ¬ p_in v 0 25 = 0 then m_end k else -1) else if p_in v 0 1 = 0 then -1 else if p_hasL k = 0 then m_end k else if ¬ p_in v 0 25 = 0 then m_end k else -1
theorem p_in_m1 (n : Int32) : p_in n 0 (-1) = 0 := by
  unfold p_in
  by_cases h : n < 0
  · rw [if_pos h]
  · rw [if_neg h, if_pos]
    rw [i_lt] at h ⊢
    have e0 : (0 : Int32).toInt = 0 := rfl
    have e1 : (-1 : Int32).toInt = -1 := rfl
    omega
def p_count (w : Int32) : Int32 := if w = 0 then 0 else if w = 1 then 0 else if w = 2 then 0 else if w = 3 then -9 else -1

