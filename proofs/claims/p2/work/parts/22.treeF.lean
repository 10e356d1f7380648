/-! ===== the class's tree: N nodes; kinds, marks, owners, counts of parts, parts and labels (six places a node) ===== -/
def TOK (N c0 c1 c2 c3 c4 c5 : Nat) : Prop := N ≤ 120 ∧ N ≤ c0 ∧ N ≤ c1 ∧ N ≤ c2 ∧ N ≤ c3 ∧ 6 * N ≤ c4 ∧ 6 * N ≤ c5 ∧ c0 ≤ 5000 ∧ c1 ≤ 5000 ∧ c2 ≤ 5000 ∧ c3 ≤ 5000 ∧ c4 ≤ 5000 ∧ c5 ≤ 5000
def t_full (N : Nat) : Int32 := if nI N < 120 then 0 else 1
def t_isFree (f2 : Nat → Int32) (N : Nat) (n : Int32) : Int32 := if rholds N n = 0 then 0 else if ¬ rget f2 N n = -9 then 0 else 1
def t_pc (f3 : Nat → Int32) (N : Nat) (n : Int32) : Int32 := if rget f3 N n < 0 then 0 else rget f3 N n
def t_part (f3 g : Nat → Int32) (N : Nat) (n i : Int32) : Int32 := if i < 0 then -9 else if rget f3 N n ≤ i then -9 else rget g (6 * N) (n * 6 + i)
def t_canB (f2 : Nat → Int32) (N : Nat) (many a b c : Int32) : Int32 := if ¬ many < 1 ∧ t_isFree f2 N a = 0 then 0 else if ¬ many < 2 ∧ (t_isFree f2 N b = 0 ∨ b = a) then 0 else if many < 3 ∨ (¬ t_isFree f2 N c = 0 ∧ ¬ c = a ∧ ¬ c = b) then 1 else 0
/-- the first place from i on, of m, where g has x -/
def t_find (g : Int32 → Int32) (x : Int32) : Nat → Nat → Int32
  | 0, _ => -9
  | m + 1, i => if g (nI i) = x then nI i else t_find g x m (i + 1)
def t_place (f3 f5 : Nat → Int32) (N : Nat) (n x : Int32) : Int32 := t_find (t_part f3 f5 N n) x (t_pc f3 N n).toNatClampNeg 0
/-- up by owners, at most m times -/
def t_up (f2 : Nat → Int32) (N : Nat) : Nat → Int32 → Int32
  | 0, n => n
  | m + 1, n => if rget f2 N n = -9 then n else t_up f2 N m (rget f2 N n)
theorem nb_rholds (k : Nat) (i : Int32) : narrow .boolean (.int (rholds k i)) = .int (rholds k i) := by
  unfold rholds
  by_cases h0 : i < 0
  · rw [if_pos h0]
    rfl
  · rw [if_neg h0]
    by_cases h1 : nI k ≤ i
    · rw [if_pos h1]
      rfl
    · rw [if_neg h1]
      rfl
theorem t_pc_nI (f3 : Nat → Int32) (N : Nat) (n : Int32) : ∃ j : Nat, j < 2 ^ 31 ∧ t_pc f3 N n = nI j := by
  unfold t_pc
  by_cases h : rget f3 N n < 0
  · rw [if_pos h]
    exact ⟨0, by decide, nI_0.symm⟩
  · rw [if_neg h]
    exact nI_of h

def t_binds (f0 f3 f4 : Nat → Int32) (N : Nat) (o p : Int32) : Int32 := if rget f0 N o = 3 then 1 else if rget f0 N o = 8 then 1 else if ¬ rget f0 N o = 7 then 0 else if ¬ t_part f3 f4 N o 1 = p then 0 else 1
def t_binder (f0 f1 f2 f3 f4 : Nat → Int32) (N : Nat) (a top : Int32) : Nat → Int32 → Int32
  | 0, _ => -9
  | m + 1, p => if p = top then -9 else if p = -9 then -9 else if ¬ rget f1 N (rget f2 N p) = rget f1 N a then t_binder f0 f1 f2 f3 f4 N a top m (rget f2 N p) else if t_binds f0 f3 f4 N (rget f2 N p) p = 0 then t_binder f0 f1 f2 f3 f4 N a top m (rget f2 N p) else rget f2 N p
def t_hasL (f3 f5 : Nat → Int32) (N : Nat) (n x : Int32) : Int32 := if t_place f3 f5 N n x = -9 then 0 else 1
def t_can (f2 : Nat → Int32) (N : Nat) (many a b c : Int32) : Int32 := if ¬ many < 1 then (if ¬ t_isFree f2 N a = 0 then t_can2 else 0) else t_can2
where t_can2 : Int32 := if many < 2 then t_can3 else if t_isFree f2 N b = 0 then 0 else if ¬ b = a then t_can3 else 0
      t_can3 : Int32 := if many < 3 then 1 else if t_isFree f2 N c = 0 then 0 else if c = a then 0 else if c = b then 0 else 1

/-- addPart: the four rows behind it -/
def a_f2 (f2 f3 : Nat → Int32) (N : Nat) (o pt : Int32) : Nat → Int32 := if t_pc f3 N o < 6 then rset f2 N pt o else f2
def a_f3 (f3 : Nat → Int32) (N : Nat) (o : Int32) : Nat → Int32 := if t_pc f3 N o < 6 then rset f3 N o (t_pc f3 N o + 1) else f3
def a_g (g f3 : Nat → Int32) (N : Nat) (o x : Int32) : Nat → Int32 := if t_pc f3 N o < 6 then rset g (6 * N) (o * 6 + t_pc f3 N o) x else g

