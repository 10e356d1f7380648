/-! ===== the class's tree: N nodes; kinds, marks, owners, counts of parts, parts and labels (six places a node) ===== -/
def TOK (N c0 c1 c2 c3 c4 c5 : Nat) : Prop := N ≤ 120 ∧ N ≤ c0 ∧ N ≤ c1 ∧ N ≤ c2 ∧ N ≤ c3 ∧ 6 * N ≤ c4 ∧ 6 * N ≤ c5 ∧ c0 ≤ 5000 ∧ c1 ≤ 5000 ∧ c2 ≤ 5000 ∧ c3 ≤ 5000 ∧ c4 ≤ 5000 ∧ c5 ≤ 5000
def t_full (N : Nat) : Int32 := if nI N < 120 then 0 else 1
def t_isFree (f2 : Nat → Int32) (N : Nat) (n : Int32) : Int32 := if rholds N n = 0 then 0 else if ¬ rget f2 N n = -9 then 0 else 1
def t_pc (f3 : Nat → Int32) (N : Nat) (n : Int32) : Int32 := if rget f3 N n < 0 then 0 else rget f3 N n
def t_part (f3 g : Nat → Int32) (N : Nat) (n i : Int32) : Int32 := if i < 0 then -9 else if rget f3 N n ≤ i then -9 else rget g (6 * N) (n * 6 + i)
/-- the first place from i on, of m, where g has x -/
def t_find (g : Int32 → Int32) (x : Int32) : Nat → Nat → Int32
  | 0, _ => -9
  | m + 1, i => if g (nI i) = x then nI i else t_find g x m (i + 1)
def t_place (f3 f5 : Nat → Int32) (N : Nat) (n x : Int32) : Int32 := t_find (t_part f3 f5 N n) x (t_pc f3 N n).toNatClampNeg 0
/-- up by owners, at most m times -/
def t_up (f2 : Nat → Int32) (N : Nat) : Nat → Int32 → Int32
  | 0, n => n
  | m + 1, n => if rget f2 N n = -9 then n else t_up f2 N m (rget f2 N n)
theorem nb_rholds (k : Nat) (i : Int32) : narrow .boolean (.int (rholds k i)) = .int (rholds k i) := by
  unfold rholds
  by_cases h0 : i < 0
  · rw [if_pos h0]
    rfl
  · rw [if_neg h0]
    by_cases h1 : nI k ≤ i
    · rw [if_pos h1]
      rfl
    · rw [if_neg h1]
      rfl
theorem t_pc_nI (f3 : Nat → Int32) (N : Nat) (n : Int32) : ∃ j : Nat, j < 2 ^ 31 ∧ t_pc f3 N n = nI j := by
  unfold t_pc
  by_cases h : rget f3 N n < 0
  · rw [if_pos h]
    exact ⟨0, by decide, nI_0.symm⟩
  · rw [if_neg h]
    exact nI_of h

def t_binds (f0 f3 f4 : Nat → Int32) (N : Nat) (o p : Int32) : Int32 := if rget f0 N o = 3 then 1 else if rget f0 N o = 8 then 1 else if ¬ rget f0 N o = 7 then 0 else if ¬ t_part f3 f4 N o 1 = p then 0 else 1
def t_binder (f0 f1 f2 f3 f4 : Nat → Int32) (N : Nat) (a top : Int32) : Nat → Int32 → Int32
  | 0, _ => -9
  | m + 1, p => if p = top then -9 else if p = -9 then -9 else if ¬ rget f1 N (rget f2 N p) = rget f1 N a then t_binder f0 f1 f2 f3 f4 N a top m (rget f2 N p) else if t_binds f0 f3 f4 N (rget f2 N p) p = 0 then t_binder f0 f1 f2 f3 f4 N a top m (rget f2 N p) else rget f2 N p
def t_hasL (f3 f5 : Nat → Int32) (N : Nat) (n x : Int32) : Int32 := if t_place f3 f5 N n x = -9 then 0 else 1
def t_can (f2 : Nat → Int32) (N : Nat) (many a b c : Int32) : Int32 := if many < 1 then t_can2 else if ¬ t_isFree f2 N a = 0 then t_can2 else 0
where t_can2 : Int32 := if many < 2 then t_can3 else if t_isFree f2 N b = 0 then 0 else if ¬ b = a then t_can3 else 0
      t_can3 : Int32 := if many < 3 then 1 else if t_isFree f2 N c = 0 then 0 else if c = a then 0 else if c = b then 0 else 1

/-- addPart: the four rows behind it -/
def a_f2 (f2 f3 : Nat → Int32) (N : Nat) (o pt : Int32) : Nat → Int32 := if t_pc f3 N o < 6 then rset f2 N pt o else f2
def a_f3 (f3 : Nat → Int32) (N : Nat) (o : Int32) : Nat → Int32 := if t_pc f3 N o < 6 then rset f3 N o (t_pc f3 N o + 1) else f3
def a_g (g f3 : Nat → Int32) (N : Nat) (o x : Int32) : Nat → Int32 := if t_pc f3 N o < 6 then rset g (6 * N) (o * 6 + t_pc f3 N o) x else g

def gQA : Nat → Nat → Nat → Nat
  | 0, _, _ => 0
  | m + 1, k, n => gA k n + gQA m (k + 1) (gC k n)
def gQS : Nat → Nat → Nat → Nat
  | 0, _, _ => 0
  | m + 1, k, n => gS k n + gQS m (k + 1) (gC k n)
def gQC : Nat → Nat → Nat → Nat
  | 0, _, n => n
  | m + 1, k, n => gQC m (k + 1) (gC k n)
/-- six more: the old as they were, then x six times -/
def six (f g : Nat → Int32) (k : Nat) (x : Int32) : Prop := (∀ j, j < k → g j = f j) ∧ g k = x ∧ g (k + 1) = x ∧ g (k + 1 + 1) = x ∧ g (k + 1 + 1 + 1) = x ∧ g (k + 1 + 1 + 1 + 1) = x ∧ g (k + 1 + 1 + 1 + 1 + 1) = x
def p_isK (k : Int32) : Int32 := if k < 0 then 0 else if 12 ≤ k then 0 else 1
def p_hasL (k : Int32) : Int32 := if k = 2 then 1 else if k = 3 then 1 else if k = 6 then 1 else if k = 7 then 1 else if ¬ k = 8 then 0 else 1
def p_isL (x : Int32) : Int32 := if x < 0 then 0 else if 26 ≤ x then 0 else 1
def p_fit (k v : Int32) : Int32 := if ¬ k = 1 then (if p_hasL k = 0 then 1 else if p_isL v = 0 then 0 else 1) else if v = 0 then 1 else if ¬ v = 1 then 0 else 1
def p_parts (k : Int32) : Int32 := if p_isK k = 0 then 0 else pkI k.toNatClampNeg
theorem isK_in {k : Int32} (h : ¬ p_isK k = 0) : vp_in k 12 := by
  unfold p_isK at h
  rw [vp_in_iff]
  by_cases h0 : k < 0
  · rw [if_pos h0] at h
    exact absurd rfl h
  · rw [if_neg h0] at h
    by_cases h1 : 12 ≤ k
    · rw [if_pos h1] at h
      exact absurd rfl h
    · rw [i_lt] at h0
      rw [i_le] at h1
      have e0 : (0 : Int32).toInt = 0 := rfl
      have e1 : (12 : Int32).toInt = 12 := rfl
      omega
def t_hasM (k : Int32) : Int32 := if k = 0 then 1 else if k = 1 then 1 else if p_hasL k = 0 then 0 else 1
def t_mark (k v : Int32) : Int32 := if t_hasM k = 0 then -9 else v
def b3_1 (g3 : Nat → Int32) (N : Nat) (o m : Int32) : Nat → Int32 := if m < 1 then g3 else a_f3 g3 N o
def b3_2 (g3 : Nat → Int32) (N : Nat) (o m : Int32) : Nat → Int32 := if m < 2 then b3_1 g3 N o m else a_f3 (b3_1 g3 N o m) N o
def b3_3 (g3 : Nat → Int32) (N : Nat) (o m : Int32) : Nat → Int32 := if m < 3 then b3_2 g3 N o m else a_f3 (b3_2 g3 N o m) N o
def b2_1 (g2 g3 : Nat → Int32) (N : Nat) (o m a : Int32) : Nat → Int32 := if m < 1 then g2 else a_f2 g2 g3 N o a
def b2_2 (g2 g3 : Nat → Int32) (N : Nat) (o m a b : Int32) : Nat → Int32 := if m < 2 then b2_1 g2 g3 N o m a else a_f2 (b2_1 g2 g3 N o m a) (b3_1 g3 N o m) N o b
def b2_3 (g2 g3 : Nat → Int32) (N : Nat) (o m a b c : Int32) : Nat → Int32 := if m < 3 then b2_2 g2 g3 N o m a b else a_f2 (b2_2 g2 g3 N o m a b) (b3_2 g3 N o m) N o c
def bg_1 (g g3 : Nat → Int32) (N : Nat) (o m a : Int32) : Nat → Int32 := if m < 1 then g else a_g g g3 N o a
def bg_2 (g g3 : Nat → Int32) (N : Nat) (o m a b : Int32) : Nat → Int32 := if m < 2 then bg_1 g g3 N o m a else a_g (bg_1 g g3 N o m a) (b3_1 g3 N o m) N o b
def bg_3 (g g3 : Nat → Int32) (N : Nat) (o m a b c : Int32) : Nat → Int32 := if m < 3 then bg_2 g g3 N o m a b else a_g (bg_2 g g3 N o m a b) (b3_2 g3 N o m) N o c

