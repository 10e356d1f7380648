/-! ===== the tree over the whole world ===== -/
def TI (S : cS) (N : Nat) : Prop := N ≤ 120 ∧ kK S 0 = N ∧ kK S 1 = N ∧ kK S 2 = N ∧ kK S 3 = N ∧ kK S 4 = 6 * N ∧ kK S 5 = 6 * N
theorem TI.aw {rs is : List Nat} {S u : cS} {N : Nat} (h : TI S N) (a : AW rs is S u) (hr : ∀ r ∈ [0, 1, 2, 3, 4, 5], r ∉ rs) : TI u N := by
  obtain ⟨h0, a1, a2, a3, a4, a5, a6⟩ := h
  have k : ∀ r, r < 35 → r ∈ [0, 1, 2, 3, 4, 5] → kK u r = kK S r := fun r h1 h2 => (a.2.1 r (by omega) (by rw [Nat.min_eq_left (by omega)]; exact hr r h2)).2
  exact ⟨h0, (k 0 (by decide) (by decide)).trans a1, (k 1 (by decide) (by decide)).trans a2, (k 2 (by decide) (by decide)).trans a3, (k 3 (by decide) (by decide)).trans a4, (k 4 (by decide) (by decide)).trans a5, (k 5 (by decide) (by decide)).trans a6⟩
theorem TI.tok {S : cS} {N : Nat} (h : TI S N) (hC : CL S) : TOK N (kN S 0) (kN S 1) (kN S 2) (kN S 3) (kN S 4) (kN S 5) := by
  obtain ⟨h0, a1, a2, a3, a4, a5, a6⟩ := h
  have c : ∀ r, r < 35 → kK S r ≤ kN S r ∧ kN S r ≤ 2 * lim r + 4 ∧ kK S r ≤ lim r := fun r hr => hC.2 r (by omega)
  have c0 := c 0 (by decide); have c1 := c 1 (by decide); have c2 := c 2 (by decide); have c3 := c 3 (by decide); have c4 := c 4 (by decide); have c5 := c 5 (by decide)
  rw [lim_0] at c0; rw [lim_1] at c1; rw [lim_2] at c2; rw [lim_3] at c3; rw [lim_4] at c4; rw [lim_5] at c5
  unfold TOK
  omega
def trc (G : cG) (S : cS) (N : Nat) : va_W := [(ga G 1, .inr (3, [.ref (kH S 0), .ref (kH S 1), .ref (kH S 2), .ref (kH S 3), .ref (kH S 4), .ref (kH S 5)])), (kH S 0, .inr (0, [.ref (kQ S 0), .int (nI N)])), (kQ S 0, .inl (gI G, kN S 0, .inl (kF S 0))), (kH S 1, .inr (0, [.ref (kQ S 1), .int (nI N)])), (kQ S 1, .inl (gI G, kN S 1, .inl (kF S 1))), (kH S 2, .inr (0, [.ref (kQ S 2), .int (nI N)])), (kQ S 2, .inl (gI G, kN S 2, .inl (kF S 2))), (kH S 3, .inr (0, [.ref (kQ S 3), .int (nI N)])), (kQ S 3, .inl (gI G, kN S 3, .inl (kF S 3))), (kH S 4, .inr (0, [.ref (kQ S 4), .int (nI (6 * N))])), (kQ S 4, .inl (gI G, kN S 4, .inl (kF S 4))), (kH S 5, .inr (0, [.ref (kQ S 5), .int (nI (6 * N))])), (kQ S 5, .inl (gI G, kN S 5, .inl (kF S 5)))]
abbrev tps : List Nat := [1, 13, 14, 15, 16, 17, 18, 19, 20, 21, 22, 23, 24]
theorem tr_at {G : cG} {S : cS} {N : Nat} (h : TI S N) : ∀ (j k : Nat), tps[j]? = some k → (trc G S N)[j]? = some (cE G S k)
  | 0, k, e => by obtain rfl : 1 = k := Option.some.inj e; rfl
  | 1, k, e => by obtain rfl : 13 = k := Option.some.inj e; rw [show cE G S 13 = _ from cE_row 0, h.2.1]; rfl
  | 2, k, e => by obtain rfl : 14 = k := Option.some.inj e; rw [show cE G S 14 = _ from cE_arr 0]; rfl
  | 3, k, e => by obtain rfl : 15 = k := Option.some.inj e; rw [show cE G S 15 = _ from cE_row 1, h.2.2.1]; rfl
  | 4, k, e => by obtain rfl : 16 = k := Option.some.inj e; rw [show cE G S 16 = _ from cE_arr 1]; rfl
  | 5, k, e => by obtain rfl : 17 = k := Option.some.inj e; rw [show cE G S 17 = _ from cE_row 2, h.2.2.2.1]; rfl
  | 6, k, e => by obtain rfl : 18 = k := Option.some.inj e; rw [show cE G S 18 = _ from cE_arr 2]; rfl
  | 7, k, e => by obtain rfl : 19 = k := Option.some.inj e; rw [show cE G S 19 = _ from cE_row 3, h.2.2.2.2.1]; rfl
  | 8, k, e => by obtain rfl : 20 = k := Option.some.inj e; rw [show cE G S 20 = _ from cE_arr 3]; rfl
  | 9, k, e => by obtain rfl : 21 = k := Option.some.inj e; rw [show cE G S 21 = _ from cE_row 4, h.2.2.2.2.2.1]; rfl
  | 10, k, e => by obtain rfl : 22 = k := Option.some.inj e; rw [show cE G S 22 = _ from cE_arr 4]; rfl
  | 11, k, e => by obtain rfl : 23 = k := Option.some.inj e; rw [show cE G S 23 = _ from cE_row 5, h.2.2.2.2.2.2]; rfl
  | 12, k, e => by obtain rfl : 24 = k := Option.some.inj e; rw [show cE G S 24 = _ from cE_arr 5]; rfl
  | j + 13, k, e => by simp at e
theorem tps_lt : ∀ (j k : Nat), tps[j]? = some k → k < 83 := by
  intro j k h
  have h2 : ∀ x ∈ tps, x < 83 := by decide
  exact h2 k (List.mem_of_getElem? h)
theorem tr_1 {G : cG} {S : cS} {N : Nat} (h : TI S N) : ∀ (j : Nat) (e : Nat × va_E), (trc G S N)[j]? = some e → ∃ k : Nat, tps[j]? = some k ∧ (cW G S)[k]? = some e := by
  intro j e he
  have hj : j < 13 := (List.getElem?_eq_some_iff.mp he).1
  obtain ⟨k, hk⟩ : ∃ k, tps[j]? = some k := ⟨_, List.getElem?_eq_getElem (show j < tps.length from hj)⟩
  refine ⟨k, hk, ?_⟩
  rw [cW_at (by have := tps_lt j k hk; omega), ← tr_at h j k hk]
  exact he
theorem tr_P {G : cG} {S : cS} {N : Nat} {H : Heap} (h : TI S N) (hP : cP G S H) : va_P (gD G) vwCl (trc G S N) H := fun j e he => by
  obtain ⟨k, -, h2⟩ := tr_1 h j e he
  exact hP k e h2
theorem tps_nd : ∀ (i j k : Nat), tps[i]? = some k → tps[j]? = some k → i = j := by
  intro i j k hi hj
  have h1 : i < 13 := (List.getElem?_eq_some_iff.mp hi).1
  have h2 : j < 13 := (List.getElem?_eq_some_iff.mp hj).1
  have : ∀ i, i < 13 → ∀ j, j < 13 → tps[i]? = tps[j]? → i = j := by decide
  exact this i h1 j h2 (hi.trans hj.symm)
theorem tr_D {G : cG} {S : cS} {N : Nat} {A : Nat → Prop} (h : TI S N) (hD : cD A G S) : va_D A (trc G S N) := by
  refine ⟨fun i j p q hi hj hpq => ?_, fun k q hk => ?_⟩
  · obtain ⟨a, a1, a2⟩ := tr_1 h i p hi
    obtain ⟨b, b1, b2⟩ := tr_1 h j q hj
    have e := hD.1 a b p q a2 b2 hpq
    subst e
    exact tps_nd i j a a1 b1
  · obtain ⟨a, a1, a2⟩ := tr_1 h k q hk
    exact hD.2 a q a2
theorem tr_A {G : cG} {S : cS} {N sz : Nat} (h : TI S N) : ∀ q, va_A (trc G S N) sz q → cA G S sz q := by
  rintro q (⟨k, e, he⟩ | he)
  · obtain ⟨a, a1, a2⟩ := tr_1 h k _ he
    exact Or.inl ⟨a, e, a2⟩
  · exact Or.inr he
/-- the tree's contents are these -/
def uT (S : cS) (g2 g3 g4 g5 : Nat → Int32) : cS := (S.1, fun a => if a = 2 then g2 else if a = 3 then g3 else if a = 4 then g4 else if a = 5 then g5 else S.2.1 a, S.2.2)
theorem uT_o {S : cS} {g2 g3 g4 g5 : Nat → Int32} {x : Nat} (h : x ≠ 2 ∧ x ≠ 3 ∧ x ≠ 4 ∧ x ≠ 5) : kF (uT S g2 g3 g4 g5) x = kF S x := by
  show (if x = 2 then g2 else if x = 3 then g3 else if x = 4 then g4 else if x = 5 then g5 else S.2.1 x) = _
  rw [if_neg h.1, if_neg h.2.1, if_neg h.2.2.1, if_neg h.2.2.2]
theorem uT_2 {S : cS} {g2 g3 g4 g5 : Nat → Int32} : kF (uT S g2 g3 g4 g5) 2 = g2 := rfl
theorem uT_3 {S : cS} {g2 g3 g4 g5 : Nat → Int32} : kF (uT S g2 g3 g4 g5) 3 = g3 := rfl
theorem uT_4 {S : cS} {g2 g3 g4 g5 : Nat → Int32} : kF (uT S g2 g3 g4 g5) 4 = g4 := rfl
theorem uT_5 {S : cS} {g2 g3 g4 g5 : Nat → Int32} : kF (uT S g2 g3 g4 g5) 5 = g5 := rfl
theorem uT_w {G : cG} {S : cS} {N : Nat} {g2 g3 g4 g5 : Nat → Int32} : trc G (uT S g2 g3 g4 g5) N = [(ga G 1, .inr (3, [.ref (kH S 0), .ref (kH S 1), .ref (kH S 2), .ref (kH S 3), .ref (kH S 4), .ref (kH S 5)])), (kH S 0, .inr (0, [.ref (kQ S 0), .int (nI N)])), (kQ S 0, .inl (gI G, kN S 0, .inl (kF S 0))), (kH S 1, .inr (0, [.ref (kQ S 1), .int (nI N)])), (kQ S 1, .inl (gI G, kN S 1, .inl (kF S 1))), (kH S 2, .inr (0, [.ref (kQ S 2), .int (nI N)])), (kQ S 2, .inl (gI G, kN S 2, .inl g2)), (kH S 3, .inr (0, [.ref (kQ S 3), .int (nI N)])), (kQ S 3, .inl (gI G, kN S 3, .inl g3)), (kH S 4, .inr (0, [.ref (kQ S 4), .int (nI (6 * N))])), (kQ S 4, .inl (gI G, kN S 4, .inl g4)), (kH S 5, .inr (0, [.ref (kQ S 5), .int (nI (6 * N))])), (kQ S 5, .inl (gI G, kN S 5, .inl g5))] := by
  unfold trc
  rw [uT_2, uT_3, uT_4, uT_5, uT_o (x := 0) (by decide), uT_o (x := 1) (by decide)]
  rfl
theorem uT_AW {S : cS} {g2 g3 g4 g5 : Nat → Int32} : AW [2, 3, 4, 5] [] S (uT S g2 g3 g4 g5) := ⟨fun _ _ => rfl, fun r hr hk => by
  simp only [List.mem_cons, List.not_mem_nil, or_false, not_or] at hk
  exact ⟨uT_o (by omega), rfl⟩, fun _ => rfl, Nat.le_refl _, fun k h1 h2 h3 => uT_o (by omega)⟩
theorem uT_ag {S : cS} {g2 g3 g4 g5 : Nat → Int32} : AG (fun x => x = 2 ∨ x = 3 ∨ x = 4 ∨ x = 5) S (uT S g2 g3 g4 g5) := ⟨rfl, rfl, rfl, fun x h => ⟨uT_o (by omega), rfl, rfl, rfl⟩⟩

theorem tt_size (l : Launch) (G : cG) (S : cS) (N : Nat) (hC : CL S) (hT : TI S N) (Hs : Heap) : Met l yX3_size (wC yX3_size cX3_size 1 (some .int)) (cRm S 0 0) (cPc G S Hs [.ref (ga G 1)]) (cQi G S Hs (fun v u => AW [] [] S u ∧ (u = S ∧ v = nI N))) (CC - PT S) (12 * (CC - PT S)) (cA G S Hs.size) := by
  refine Met.conv (g_size l (gD G).1 (gD G).2 (gI G) ((ga G 1)) ((kH S)) ((kQ S)) N ((kN S 0)) ((kN S 1)) ((kN S 2)) ((kN S 3)) ((kN S 4)) ((kN S 5)) ((kF S 0)) ((kF S 1)) ((kF S 2)) ((kF S 3)) ((kF S 4)) ((kF S 5)) (hT.tok hC) Hs.size) (fun w h => (show ∀ w ∈ wsX3_size, w ∈ (wC yX3_size cX3_size 1 (some .int)) from fun w h => List.mem_cons_of_mem _ ((List.forall_mem_cons.mpr ⟨C_627, (cm_app (cm_app (List.forall_mem_cons.mpr ⟨C_26, (List.forall_mem_cons.mpr ⟨C_208, cm_0⟩)⟩) cu_in3) cu_in0)⟩) w h)) w h) (Nat.le_refl _) (Nat.le_refl _) (Nat.zero_le _) (Nat.zero_le _) (Nat.zero_le _) (Nat.zero_le _) ?_ ?_ (tr_A hT)
  · rintro a s ⟨e0, e1, hP, hK, hD, -⟩
    exact ⟨e0, by rw [e1], tr_P hT (by rw [e1]; exact hP), cK_i hK, tr_D hT hD⟩
  · rintro a s o t hpc ⟨⟨v, u0, eo, hv, hP1, hK1, hD1⟩, hF⟩ ⟨L, hE⟩
    exact ⟨⟨v, S, eo, ⟨AW.rf, rfl, hv⟩, cB_of tps hpc hF hE hP1 hD1 rfl (tr_1 hT) (tr_at hT) (fun _ _ => rfl) (Nat.zero_le _) (Nat.zero_le _) (Nat.le_refl _) hC HS.rf⟩, hF.1, fun q hq hn => hF.2 q hq (fun h => hn (tr_A hT q h))⟩

theorem tt_isFull (l : Launch) (G : cG) (S : cS) (N : Nat) (hC : CL S) (hT : TI S N) (Hs : Heap) : Met l yX3_isFull (wC yX3_isFull cX3_isFull 1 (some .boolean)) (cRm S 0 0) (cPc G S Hs [.ref (ga G 1)]) (cQi G S Hs (fun v u => AW [] [] S u ∧ (u = S ∧ v = t_full N))) (CC - PT S) (12 * (CC - PT S)) (cA G S Hs.size) := by
  refine Met.conv (g_isFull l (gD G).1 (gD G).2 (gI G) ((ga G 1)) ((kH S)) ((kQ S)) N ((kN S 0)) ((kN S 1)) ((kN S 2)) ((kN S 3)) ((kN S 4)) ((kN S 5)) ((kF S 0)) ((kF S 1)) ((kF S 2)) ((kF S 3)) ((kF S 4)) ((kF S 5)) (hT.tok hC) Hs.size) (fun w h => (show ∀ w ∈ wsX3_isFull, w ∈ (wC yX3_isFull cX3_isFull 1 (some .boolean)) from fun w h => List.mem_cons_of_mem _ ((List.forall_mem_cons.mpr ⟨C_207, (cm_app (cm_app (List.forall_mem_cons.mpr ⟨C_26, (List.forall_mem_cons.mpr ⟨C_208, cm_0⟩)⟩) cu_in3) cu_in0)⟩) w h)) w h) (Nat.le_refl _) (Nat.le_refl _) (Nat.zero_le _) (Nat.zero_le _) (Nat.zero_le _) (Nat.zero_le _) ?_ ?_ (tr_A hT)
  · rintro a s ⟨e0, e1, hP, hK, hD, -⟩
    exact ⟨e0, by rw [e1], tr_P hT (by rw [e1]; exact hP), cK_i hK, tr_D hT hD⟩
  · rintro a s o t hpc ⟨⟨v, u0, eo, hv, hP1, hK1, hD1⟩, hF⟩ ⟨L, hE⟩
    exact ⟨⟨v, S, eo, ⟨AW.rf, rfl, hv⟩, cB_of tps hpc hF hE hP1 hD1 rfl (tr_1 hT) (tr_at hT) (fun _ _ => rfl) (Nat.zero_le _) (Nat.zero_le _) (Nat.le_refl _) hC HS.rf⟩, hF.1, fun q hq hn => hF.2 q hq (fun h => hn (tr_A hT q h))⟩

theorem tt_isNode (l : Launch) (G : cG) (S : cS) (N : Nat) (n : Int32) (hC : CL S) (hT : TI S N) (Hs : Heap) : Met l yX3_isNode (wC yX3_isNode cX3_isNode 2 (some .boolean)) (cRm S 1 21) (cPc G S Hs [.ref (ga G 1), .int n]) (cQi G S Hs (fun v u => AW [] [] S u ∧ (u = S ∧ v = rholds N n))) (CC - PT S) (12 * (CC - PT S)) (cA G S Hs.size) := by
  refine Met.conv (g_isNode l (gD G).1 (gD G).2 (gI G) ((ga G 1)) ((kH S)) ((kQ S)) N ((kN S 0)) ((kN S 1)) ((kN S 2)) ((kN S 3)) ((kN S 4)) ((kN S 5)) ((kF S 0)) ((kF S 1)) ((kF S 2)) ((kF S 3)) ((kF S 4)) ((kF S 5)) n (hT.tok hC) Hs.size) (fun w h => (show ∀ w ∈ wsX3_isNode, w ∈ (wC yX3_isNode cX3_isNode 2 (some .boolean)) from fun w h => List.mem_cons_of_mem _ ((List.forall_mem_cons.mpr ⟨C_195, (cm_app (cm_app (List.forall_mem_cons.mpr ⟨C_26, (List.forall_mem_cons.mpr ⟨C_196, (List.forall_mem_cons.mpr ⟨C_197, (List.forall_mem_cons.mpr ⟨C_198, (List.forall_mem_cons.mpr ⟨C_25, (List.forall_mem_cons.mpr ⟨C_199, (List.forall_mem_cons.mpr ⟨C_89, cm_0⟩)⟩)⟩)⟩)⟩)⟩)⟩) cu_in3) cu_in0)⟩) w h)) w h) (Nat.le_refl _) (Nat.le_refl _) (Nat.zero_le _) (Nat.zero_le _) (Nat.zero_le _) (Nat.zero_le _) ?_ ?_ (tr_A hT)
  · rintro a s ⟨e0, e1, hP, hK, hD, -⟩
    exact ⟨e0, by rw [e1], tr_P hT (by rw [e1]; exact hP), cK_i hK, tr_D hT hD⟩
  · rintro a s o t hpc ⟨⟨v, u0, eo, hv, hP1, hK1, hD1⟩, hF⟩ ⟨L, hE⟩
    exact ⟨⟨v, S, eo, ⟨AW.rf, rfl, hv⟩, cB_of tps hpc hF hE hP1 hD1 rfl (tr_1 hT) (tr_at hT) (fun _ _ => rfl) (Nat.zero_le _) (Nat.zero_le _) (Nat.le_refl _) hC HS.rf⟩, hF.1, fun q hq hn => hF.2 q hq (fun h => hn (tr_A hT q h))⟩

theorem tt_isFree (l : Launch) (G : cG) (S : cS) (N : Nat) (n : Int32) (hC : CL S) (hT : TI S N) (Hs : Heap) : Met l yX3_isFree (wC yX3_isFree cX3_isFree 2 (some .boolean)) (cRm S 2 42) (cPc G S Hs [.ref (ga G 1), .int n]) (cQi G S Hs (fun v u => AW [] [] S u ∧ (u = S ∧ v = t_isFree ((kF S 2)) N n))) (CC - PT S) (12 * (CC - PT S)) (cA G S Hs.size) := by
  refine Met.conv (g_isFree l (gD G).1 (gD G).2 (gI G) ((ga G 1)) ((kH S)) ((kQ S)) N ((kN S 0)) ((kN S 1)) ((kN S 2)) ((kN S 3)) ((kN S 4)) ((kN S 5)) ((kF S 0)) ((kF S 1)) ((kF S 2)) ((kF S 3)) ((kF S 4)) ((kF S 5)) n (hT.tok hC) Hs.size) (fun w h => (show ∀ w ∈ wsX3_isFree, w ∈ (wC yX3_isFree cX3_isFree 2 (some .boolean)) from fun w h => List.mem_cons_of_mem _ ((List.forall_mem_cons.mpr ⟨C_191, (cm_app (cm_app (List.forall_mem_cons.mpr ⟨C_28, (List.forall_mem_cons.mpr ⟨C_192, (List.forall_mem_cons.mpr ⟨C_193, (List.forall_mem_cons.mpr ⟨C_194, (List.forall_mem_cons.mpr ⟨C_6, (List.forall_mem_cons.mpr ⟨C_195, (List.forall_mem_cons.mpr ⟨C_26, (List.forall_mem_cons.mpr ⟨C_196, (List.forall_mem_cons.mpr ⟨C_197, (List.forall_mem_cons.mpr ⟨C_198, (List.forall_mem_cons.mpr ⟨C_25, (List.forall_mem_cons.mpr ⟨C_199, (List.forall_mem_cons.mpr ⟨C_89, (List.forall_mem_cons.mpr ⟨C_200, (List.forall_mem_cons.mpr ⟨C_201, (List.forall_mem_cons.mpr ⟨C_202, (List.forall_mem_cons.mpr ⟨C_203, (List.forall_mem_cons.mpr ⟨C_37, cm_0⟩)⟩)⟩)⟩)⟩)⟩)⟩)⟩)⟩)⟩)⟩)⟩)⟩)⟩)⟩)⟩)⟩)⟩) cu_in3) cu_in0)⟩) w h)) w h) (Nat.le_refl _) (Nat.le_refl _) (Nat.zero_le _) (Nat.zero_le _) (Nat.zero_le _) (Nat.zero_le _) ?_ ?_ (tr_A hT)
  · rintro a s ⟨e0, e1, hP, hK, hD, -⟩
    exact ⟨e0, by rw [e1], tr_P hT (by rw [e1]; exact hP), cK_i hK, tr_D hT hD⟩
  · rintro a s o t hpc ⟨⟨v, u0, eo, hv, hP1, hK1, hD1⟩, hF⟩ ⟨L, hE⟩
    exact ⟨⟨v, S, eo, ⟨AW.rf, rfl, hv⟩, cB_of tps hpc hF hE hP1 hD1 rfl (tr_1 hT) (tr_at hT) (fun _ _ => rfl) (Nat.zero_le _) (Nat.zero_le _) (Nat.le_refl _) hC HS.rf⟩, hF.1, fun q hq hn => hF.2 q hq (fun h => hn (tr_A hT q h))⟩

theorem tt_kindOf (l : Launch) (G : cG) (S : cS) (N : Nat) (n : Int32) (hC : CL S) (hT : TI S N) (Hs : Heap) : Met l yX3_kindOf (wC yX3_kindOf cX3_kindOf 2 (some .int)) (cRm S 1 21) (cPc G S Hs [.ref (ga G 1), .int n]) (cQi G S Hs (fun v u => AW [] [] S u ∧ (u = S ∧ v = rget ((kF S 0)) N n))) (CC - PT S) (12 * (CC - PT S)) (cA G S Hs.size) := by
  refine Met.conv (g_kindOf l (gD G).1 (gD G).2 (gI G) ((ga G 1)) ((kH S)) ((kQ S)) N ((kN S 0)) ((kN S 1)) ((kN S 2)) ((kN S 3)) ((kN S 4)) ((kN S 5)) ((kF S 0)) ((kF S 1)) ((kF S 2)) ((kF S 3)) ((kF S 4)) ((kF S 5)) n (hT.tok hC) Hs.size) (fun w h => (show ∀ w ∈ wsX3_kindOf, w ∈ (wC yX3_kindOf cX3_kindOf 2 (some .int)) from fun w h => List.mem_cons_of_mem _ ((List.forall_mem_cons.mpr ⟨C_243, (cm_app (cm_app (List.forall_mem_cons.mpr ⟨C_26, (List.forall_mem_cons.mpr ⟨C_200, (List.forall_mem_cons.mpr ⟨C_201, (List.forall_mem_cons.mpr ⟨C_202, (List.forall_mem_cons.mpr ⟨C_25, (List.forall_mem_cons.mpr ⟨C_203, (List.forall_mem_cons.mpr ⟨C_89, (List.forall_mem_cons.mpr ⟨C_37, cm_0⟩)⟩)⟩)⟩)⟩)⟩)⟩)⟩) cu_in3) cu_in0)⟩) w h)) w h) (Nat.le_refl _) (Nat.le_refl _) (Nat.zero_le _) (Nat.zero_le _) (Nat.zero_le _) (Nat.zero_le _) ?_ ?_ (tr_A hT)
  · rintro a s ⟨e0, e1, hP, hK, hD, -⟩
    exact ⟨e0, by rw [e1], tr_P hT (by rw [e1]; exact hP), cK_i hK, tr_D hT hD⟩
  · rintro a s o t hpc ⟨⟨v, u0, eo, hv, hP1, hK1, hD1⟩, hF⟩ ⟨L, hE⟩
    exact ⟨⟨v, S, eo, ⟨AW.rf, rfl, hv⟩, cB_of tps hpc hF hE hP1 hD1 rfl (tr_1 hT) (tr_at hT) (fun _ _ => rfl) (Nat.zero_le _) (Nat.zero_le _) (Nat.le_refl _) hC HS.rf⟩, hF.1, fun q hq hn => hF.2 q hq (fun h => hn (tr_A hT q h))⟩

theorem tt_markOf (l : Launch) (G : cG) (S : cS) (N : Nat) (n : Int32) (hC : CL S) (hT : TI S N) (Hs : Heap) : Met l yX3_markOf (wC yX3_markOf cX3_markOf 2 (some .int)) (cRm S 1 21) (cPc G S Hs [.ref (ga G 1), .int n]) (cQi G S Hs (fun v u => AW [] [] S u ∧ (u = S ∧ v = rget ((kF S 1)) N n))) (CC - PT S) (12 * (CC - PT S)) (cA G S Hs.size) := by
  refine Met.conv (g_markOf l (gD G).1 (gD G).2 (gI G) ((ga G 1)) ((kH S)) ((kQ S)) N ((kN S 0)) ((kN S 1)) ((kN S 2)) ((kN S 3)) ((kN S 4)) ((kN S 5)) ((kF S 0)) ((kF S 1)) ((kF S 2)) ((kF S 3)) ((kF S 4)) ((kF S 5)) n (hT.tok hC) Hs.size) (fun w h => (show ∀ w ∈ wsX3_markOf, w ∈ (wC yX3_markOf cX3_markOf 2 (some .int)) from fun w h => List.mem_cons_of_mem _ ((List.forall_mem_cons.mpr ⟨C_268, (cm_app (cm_app (List.forall_mem_cons.mpr ⟨C_27, (List.forall_mem_cons.mpr ⟨C_200, (List.forall_mem_cons.mpr ⟨C_201, (List.forall_mem_cons.mpr ⟨C_202, (List.forall_mem_cons.mpr ⟨C_25, (List.forall_mem_cons.mpr ⟨C_203, (List.forall_mem_cons.mpr ⟨C_89, (List.forall_mem_cons.mpr ⟨C_37, cm_0⟩)⟩)⟩)⟩)⟩)⟩)⟩)⟩) cu_in3) cu_in0)⟩) w h)) w h) (Nat.le_refl _) (Nat.le_refl _) (Nat.zero_le _) (Nat.zero_le _) (Nat.zero_le _) (Nat.zero_le _) ?_ ?_ (tr_A hT)
  · rintro a s ⟨e0, e1, hP, hK, hD, -⟩
    exact ⟨e0, by rw [e1], tr_P hT (by rw [e1]; exact hP), cK_i hK, tr_D hT hD⟩
  · rintro a s o t hpc ⟨⟨v, u0, eo, hv, hP1, hK1, hD1⟩, hF⟩ ⟨L, hE⟩
    exact ⟨⟨v, S, eo, ⟨AW.rf, rfl, hv⟩, cB_of tps hpc hF hE hP1 hD1 rfl (tr_1 hT) (tr_at hT) (fun _ _ => rfl) (Nat.zero_le _) (Nat.zero_le _) (Nat.le_refl _) hC HS.rf⟩, hF.1, fun q hq hn => hF.2 q hq (fun h => hn (tr_A hT q h))⟩

theorem tt_ownerOf (l : Launch) (G : cG) (S : cS) (N : Nat) (n : Int32) (hC : CL S) (hT : TI S N) (Hs : Heap) : Met l yX3_ownerOf (wC yX3_ownerOf cX3_ownerOf 2 (some .int)) (cRm S 1 21) (cPc G S Hs [.ref (ga G 1), .int n]) (cQi G S Hs (fun v u => AW [] [] S u ∧ (u = S ∧ v = rget ((kF S 2)) N n))) (CC - PT S) (12 * (CC - PT S)) (cA G S Hs.size) := by
  refine Met.conv (g_ownerOf l (gD G).1 (gD G).2 (gI G) ((ga G 1)) ((kH S)) ((kQ S)) N ((kN S 0)) ((kN S 1)) ((kN S 2)) ((kN S 3)) ((kN S 4)) ((kN S 5)) ((kF S 0)) ((kF S 1)) ((kF S 2)) ((kF S 3)) ((kF S 4)) ((kF S 5)) n (hT.tok hC) Hs.size) (fun w h => (show ∀ w ∈ wsX3_ownerOf, w ∈ (wC yX3_ownerOf cX3_ownerOf 2 (some .int)) from fun w h => List.mem_cons_of_mem _ ((List.forall_mem_cons.mpr ⟨C_239, (cm_app (cm_app (List.forall_mem_cons.mpr ⟨C_28, (List.forall_mem_cons.mpr ⟨C_200, (List.forall_mem_cons.mpr ⟨C_201, (List.forall_mem_cons.mpr ⟨C_202, (List.forall_mem_cons.mpr ⟨C_25, (List.forall_mem_cons.mpr ⟨C_203, (List.forall_mem_cons.mpr ⟨C_89, (List.forall_mem_cons.mpr ⟨C_37, cm_0⟩)⟩)⟩)⟩)⟩)⟩)⟩)⟩) cu_in3) cu_in0)⟩) w h)) w h) (Nat.le_refl _) (Nat.le_refl _) (Nat.zero_le _) (Nat.zero_le _) (Nat.zero_le _) (Nat.zero_le _) ?_ ?_ (tr_A hT)
  · rintro a s ⟨e0, e1, hP, hK, hD, -⟩
    exact ⟨e0, by rw [e1], tr_P hT (by rw [e1]; exact hP), cK_i hK, tr_D hT hD⟩
  · rintro a s o t hpc ⟨⟨v, u0, eo, hv, hP1, hK1, hD1⟩, hF⟩ ⟨L, hE⟩
    exact ⟨⟨v, S, eo, ⟨AW.rf, rfl, hv⟩, cB_of tps hpc hF hE hP1 hD1 rfl (tr_1 hT) (tr_at hT) (fun _ _ => rfl) (Nat.zero_le _) (Nat.zero_le _) (Nat.le_refl _) hC HS.rf⟩, hF.1, fun q hq hn => hF.2 q hq (fun h => hn (tr_A hT q h))⟩

theorem tt_partCount (l : Launch) (G : cG) (S : cS) (N : Nat) (n : Int32) (hC : CL S) (hT : TI S N) (Hs : Heap) : Met l yX3_partCount (wC yX3_partCount cX3_partCount 2 (some .int)) (cRm S 1 21) (cPc G S Hs [.ref (ga G 1), .int n]) (cQi G S Hs (fun v u => AW [] [] S u ∧ (u = S ∧ v = t_pc ((kF S 3)) N n))) (CC - PT S) (12 * (CC - PT S)) (cA G S Hs.size) := by
  refine Met.conv (g_partCount l (gD G).1 (gD G).2 (gI G) ((ga G 1)) ((kH S)) ((kQ S)) N ((kN S 0)) ((kN S 1)) ((kN S 2)) ((kN S 3)) ((kN S 4)) ((kN S 5)) ((kF S 0)) ((kF S 1)) ((kF S 2)) ((kF S 3)) ((kF S 4)) ((kF S 5)) n (hT.tok hC) Hs.size) (fun w h => (show ∀ w ∈ wsX3_partCount, w ∈ (wC yX3_partCount cX3_partCount 2 (some .int)) from fun w h => List.mem_cons_of_mem _ ((List.forall_mem_cons.mpr ⟨C_222, (cm_app (cm_app (List.forall_mem_cons.mpr ⟨C_29, (List.forall_mem_cons.mpr ⟨C_223, (List.forall_mem_cons.mpr ⟨C_139, (List.forall_mem_cons.mpr ⟨C_111, (List.forall_mem_cons.mpr ⟨C_140, (List.forall_mem_cons.mpr ⟨C_200, (List.forall_mem_cons.mpr ⟨C_201, (List.forall_mem_cons.mpr ⟨C_202, (List.forall_mem_cons.mpr ⟨C_25, (List.forall_mem_cons.mpr ⟨C_203, (List.forall_mem_cons.mpr ⟨C_89, (List.forall_mem_cons.mpr ⟨C_37, cm_0⟩)⟩)⟩)⟩)⟩)⟩)⟩)⟩)⟩)⟩)⟩)⟩) cu_in3) cu_in0)⟩) w h)) w h) (Nat.le_refl _) (Nat.le_refl _) (Nat.zero_le _) (Nat.zero_le _) (Nat.zero_le _) (Nat.zero_le _) ?_ ?_ (tr_A hT)
  · rintro a s ⟨e0, e1, hP, hK, hD, -⟩
    exact ⟨e0, by rw [e1], tr_P hT (by rw [e1]; exact hP), cK_i hK, tr_D hT hD⟩
  · rintro a s o t hpc ⟨⟨v, u0, eo, hv, hP1, hK1, hD1⟩, hF⟩ ⟨L, hE⟩
    exact ⟨⟨v, S, eo, ⟨AW.rf, rfl, hv⟩, cB_of tps hpc hF hE hP1 hD1 rfl (tr_1 hT) (tr_at hT) (fun _ _ => rfl) (Nat.zero_le _) (Nat.zero_le _) (Nat.le_refl _) hC HS.rf⟩, hF.1, fun q hq hn => hF.2 q hq (fun h => hn (tr_A hT q h))⟩

theorem tt_partOf (l : Launch) (G : cG) (S : cS) (N : Nat) (n : Int32) (i : Int32) (hC : CL S) (hT : TI S N) (Hs : Heap) : Met l yX3_partOf (wC yX3_partOf cX3_partOf 3 (some .int)) (cRm S 1 21) (cPc G S Hs [.ref (ga G 1), .int n, .int i]) (cQi G S Hs (fun v u => AW [] [] S u ∧ (u = S ∧ v = t_part ((kF S 3)) ((kF S 4)) N n i))) (CC - PT S) (12 * (CC - PT S)) (cA G S Hs.size) := by
  refine Met.conv (g_partOf l (gD G).1 (gD G).2 (gI G) ((ga G 1)) ((kH S)) ((kQ S)) N ((kN S 0)) ((kN S 1)) ((kN S 2)) ((kN S 3)) ((kN S 4)) ((kN S 5)) ((kF S 0)) ((kF S 1)) ((kF S 2)) ((kF S 3)) ((kF S 4)) ((kF S 5)) n i (hT.tok hC) Hs.size) (fun w h => (show ∀ w ∈ wsX3_partOf, w ∈ (wC yX3_partOf cX3_partOf 3 (some .int)) from fun w h => List.mem_cons_of_mem _ ((List.forall_mem_cons.mpr ⟨C_273, (cm_app (cm_app (List.forall_mem_cons.mpr ⟨C_29, (List.forall_mem_cons.mpr ⟨C_30, (List.forall_mem_cons.mpr ⟨C_200, (List.forall_mem_cons.mpr ⟨C_201, (List.forall_mem_cons.mpr ⟨C_202, (List.forall_mem_cons.mpr ⟨C_25, (List.forall_mem_cons.mpr ⟨C_203, (List.forall_mem_cons.mpr ⟨C_89, (List.forall_mem_cons.mpr ⟨C_37, cm_0⟩)⟩)⟩)⟩)⟩)⟩)⟩)⟩)⟩) cu_in3) cu_in0)⟩) w h)) w h) (Nat.le_refl _) (Nat.le_refl _) (Nat.zero_le _) (Nat.zero_le _) (Nat.zero_le _) (Nat.zero_le _) ?_ ?_ (tr_A hT)
  · rintro a s ⟨e0, e1, hP, hK, hD, -⟩
    exact ⟨e0, by rw [e1], tr_P hT (by rw [e1]; exact hP), cK_i hK, tr_D hT hD⟩
  · rintro a s o t hpc ⟨⟨v, u0, eo, hv, hP1, hK1, hD1⟩, hF⟩ ⟨L, hE⟩
    exact ⟨⟨v, S, eo, ⟨AW.rf, rfl, hv⟩, cB_of tps hpc hF hE hP1 hD1 rfl (tr_1 hT) (tr_at hT) (fun _ _ => rfl) (Nat.zero_le _) (Nat.zero_le _) (Nat.le_refl _) hC HS.rf⟩, hF.1, fun q hq hn => hF.2 q hq (fun h => hn (tr_A hT q h))⟩

theorem tt_labelOf (l : Launch) (G : cG) (S : cS) (N : Nat) (n : Int32) (i : Int32) (hC : CL S) (hT : TI S N) (Hs : Heap) : Met l yX3_labelOf (wC yX3_labelOf cX3_labelOf 3 (some .int)) (cRm S 1 21) (cPc G S Hs [.ref (ga G 1), .int n, .int i]) (cQi G S Hs (fun v u => AW [] [] S u ∧ (u = S ∧ v = t_part ((kF S 3)) ((kF S 5)) N n i))) (CC - PT S) (12 * (CC - PT S)) (cA G S Hs.size) := by
  refine Met.conv (g_labelOf l (gD G).1 (gD G).2 (gI G) ((ga G 1)) ((kH S)) ((kQ S)) N ((kN S 0)) ((kN S 1)) ((kN S 2)) ((kN S 3)) ((kN S 4)) ((kN S 5)) ((kF S 0)) ((kF S 1)) ((kF S 2)) ((kF S 3)) ((kF S 4)) ((kF S 5)) n i (hT.tok hC) Hs.size) (fun w h => (show ∀ w ∈ wsX3_labelOf, w ∈ (wC yX3_labelOf cX3_labelOf 3 (some .int)) from fun w h => List.mem_cons_of_mem _ ((List.forall_mem_cons.mpr ⟨C_255, (cm_app (cm_app (List.forall_mem_cons.mpr ⟨C_29, (List.forall_mem_cons.mpr ⟨C_31, (List.forall_mem_cons.mpr ⟨C_200, (List.forall_mem_cons.mpr ⟨C_201, (List.forall_mem_cons.mpr ⟨C_202, (List.forall_mem_cons.mpr ⟨C_25, (List.forall_mem_cons.mpr ⟨C_203, (List.forall_mem_cons.mpr ⟨C_89, (List.forall_mem_cons.mpr ⟨C_37, cm_0⟩)⟩)⟩)⟩)⟩)⟩)⟩)⟩)⟩) cu_in3) cu_in0)⟩) w h)) w h) (Nat.le_refl _) (Nat.le_refl _) (Nat.zero_le _) (Nat.zero_le _) (Nat.zero_le _) (Nat.zero_le _) ?_ ?_ (tr_A hT)
  · rintro a s ⟨e0, e1, hP, hK, hD, -⟩
    exact ⟨e0, by rw [e1], tr_P hT (by rw [e1]; exact hP), cK_i hK, tr_D hT hD⟩
  · rintro a s o t hpc ⟨⟨v, u0, eo, hv, hP1, hK1, hD1⟩, hF⟩ ⟨L, hE⟩
    exact ⟨⟨v, S, eo, ⟨AW.rf, rfl, hv⟩, cB_of tps hpc hF hE hP1 hD1 rfl (tr_1 hT) (tr_at hT) (fun _ _ => rfl) (Nat.zero_le _) (Nat.zero_le _) (Nat.le_refl _) hC HS.rf⟩, hF.1, fun q hq hn => hF.2 q hq (fun h => hn (tr_A hT q h))⟩

theorem tt_placeOf (l : Launch) (G : cG) (S : cS) (N : Nat) (n : Int32) (x : Int32) (hC : CL S) (hT : TI S N) (Hs : Heap) : Met l yX3_placeOf (wC yX3_placeOf cX3_placeOf 5 (some .int)) (cRm S 2 43) (cPc G S Hs [.ref (ga G 1), .int n, .int x]) (cQi G S Hs (fun v u => AW [] [] S u ∧ (u = S ∧ v = t_place ((kF S 3)) ((kF S 5)) N n x))) (CC - PT S) (12 * (CC - PT S)) (cA G S Hs.size) := by
  refine Met.conv (g_placeOf l (gD G).1 (gD G).2 (gI G) ((ga G 1)) ((kH S)) ((kQ S)) N ((kN S 0)) ((kN S 1)) ((kN S 2)) ((kN S 3)) ((kN S 4)) ((kN S 5)) ((kF S 0)) ((kF S 1)) ((kF S 2)) ((kF S 3)) ((kF S 4)) ((kF S 5)) n x (hT.tok hC) Hs.size) (fun w h => (show ∀ w ∈ wsX3_placeOf, w ∈ (wC yX3_placeOf cX3_placeOf 5 (some .int)) from fun w h => List.mem_cons_of_mem _ ((List.forall_mem_cons.mpr ⟨C_251, (cm_app (cm_app (List.forall_mem_cons.mpr ⟨C_219, (List.forall_mem_cons.mpr ⟨C_220, (List.forall_mem_cons.mpr ⟨C_221, (List.forall_mem_cons.mpr ⟨C_6, (List.forall_mem_cons.mpr ⟨C_222, (List.forall_mem_cons.mpr ⟨C_29, (List.forall_mem_cons.mpr ⟨C_223, (List.forall_mem_cons.mpr ⟨C_139, (List.forall_mem_cons.mpr ⟨C_111, (List.forall_mem_cons.mpr ⟨C_140, (List.forall_mem_cons.mpr ⟨C_200, (List.forall_mem_cons.mpr ⟨C_201, (List.forall_mem_cons.mpr ⟨C_202, (List.forall_mem_cons.mpr ⟨C_25, (List.forall_mem_cons.mpr ⟨C_203, (List.forall_mem_cons.mpr ⟨C_89, (List.forall_mem_cons.mpr ⟨C_37, (List.forall_mem_cons.mpr ⟨C_252, (List.forall_mem_cons.mpr ⟨C_253, (List.forall_mem_cons.mpr ⟨C_254, (List.forall_mem_cons.mpr ⟨C_255, (List.forall_mem_cons.mpr ⟨C_31, cm_0⟩)⟩)⟩)⟩)⟩)⟩)⟩)⟩)⟩)⟩)⟩)⟩)⟩)⟩)⟩)⟩)⟩)⟩)⟩)⟩)⟩)⟩) cu_in3) cu_in0)⟩) w h)) w h) (Nat.le_refl _) (Nat.le_refl _) (Nat.zero_le _) (Nat.zero_le _) (Nat.zero_le _) (Nat.zero_le _) ?_ ?_ (tr_A hT)
  · rintro a s ⟨e0, e1, hP, hK, hD, -⟩
    exact ⟨e0, by rw [e1], tr_P hT (by rw [e1]; exact hP), cK_i hK, tr_D hT hD⟩
  · rintro a s o t hpc ⟨⟨v, u0, eo, hv, hP1, hK1, hD1⟩, hF⟩ ⟨L, hE⟩
    exact ⟨⟨v, S, eo, ⟨AW.rf, rfl, hv⟩, cB_of tps hpc hF hE hP1 hD1 rfl (tr_1 hT) (tr_at hT) (fun _ _ => rfl) (Nat.zero_le _) (Nat.zero_le _) (Nat.le_refl _) hC HS.rf⟩, hF.1, fun q hq hn => hF.2 q hq (fun h => hn (tr_A hT q h))⟩

theorem tt_hasLabel (l : Launch) (G : cG) (S : cS) (N : Nat) (n : Int32) (x : Int32) (hC : CL S) (hT : TI S N) (Hs : Heap) : Met l yX3_hasLabel (wC yX3_hasLabel cX3_hasLabel 3 (some .boolean)) (cRm S 3 67) (cPc G S Hs [.ref (ga G 1), .int n, .int x]) (cQi G S Hs (fun v u => AW [] [] S u ∧ (u = S ∧ v = t_hasL ((kF S 3)) ((kF S 5)) N n x))) (CC - PT S) (12 * (CC - PT S)) (cA G S Hs.size) := by
  refine Met.conv (g_hasLabel l (gD G).1 (gD G).2 (gI G) ((ga G 1)) ((kH S)) ((kQ S)) N ((kN S 0)) ((kN S 1)) ((kN S 2)) ((kN S 3)) ((kN S 4)) ((kN S 5)) ((kF S 0)) ((kF S 1)) ((kF S 2)) ((kF S 3)) ((kF S 4)) ((kF S 5)) n x (hT.tok hC) Hs.size) (fun w h => (show ∀ w ∈ wsX3_hasLabel, w ∈ (wC yX3_hasLabel cX3_hasLabel 3 (some .boolean)) from fun w h => List.mem_cons_of_mem _ ((List.forall_mem_cons.mpr ⟨C_247, (cm_app (cm_app (cm_app (List.forall_mem_cons.mpr ⟨C_248, (List.forall_mem_cons.mpr ⟨C_249, (List.forall_mem_cons.mpr ⟨C_250, (List.forall_mem_cons.mpr ⟨C_6, (List.forall_mem_cons.mpr ⟨C_251, (List.forall_mem_cons.mpr ⟨C_219, (List.forall_mem_cons.mpr ⟨C_220, (List.forall_mem_cons.mpr ⟨C_221, (List.forall_mem_cons.mpr ⟨C_222, (List.forall_mem_cons.mpr ⟨C_29, (List.forall_mem_cons.mpr ⟨C_223, (List.forall_mem_cons.mpr ⟨C_139, (List.forall_mem_cons.mpr ⟨C_111, (List.forall_mem_cons.mpr ⟨C_140, (List.forall_mem_cons.mpr ⟨C_200, (List.forall_mem_cons.mpr ⟨C_201, (List.forall_mem_cons.mpr ⟨C_202, (List.forall_mem_cons.mpr ⟨C_25, (List.forall_mem_cons.mpr ⟨C_203, (List.forall_mem_cons.mpr ⟨C_89, (List.forall_mem_cons.mpr ⟨C_37, (List.forall_mem_cons.mpr ⟨C_252, (List.forall_mem_cons.mpr ⟨C_253, (List.forall_mem_cons.mpr ⟨C_254, cm_0⟩)⟩)⟩)⟩)⟩)⟩)⟩)⟩)⟩)⟩)⟩)⟩)⟩)⟩)⟩)⟩)⟩)⟩)⟩)⟩)⟩)⟩)⟩)⟩) (List.forall_mem_cons.mpr ⟨C_255, (List.forall_mem_cons.mpr ⟨C_31, cm_0⟩)⟩)) cu_in3) cu_in0)⟩) w h)) w h) (Nat.le_refl _) (Nat.le_refl _) (Nat.zero_le _) (Nat.zero_le _) (Nat.zero_le _) (Nat.zero_le _) ?_ ?_ (tr_A hT)
  · rintro a s ⟨e0, e1, hP, hK, hD, -⟩
    exact ⟨e0, by rw [e1], tr_P hT (by rw [e1]; exact hP), cK_i hK, tr_D hT hD⟩
  · rintro a s o t hpc ⟨⟨v, u0, eo, hv, hP1, hK1, hD1⟩, hF⟩ ⟨L, hE⟩
    exact ⟨⟨v, S, eo, ⟨AW.rf, rfl, hv⟩, cB_of tps hpc hF hE hP1 hD1 rfl (tr_1 hT) (tr_at hT) (fun _ _ => rfl) (Nat.zero_le _) (Nat.zero_le _) (Nat.le_refl _) hC HS.rf⟩, hF.1, fun q hq hn => hF.2 q hq (fun h => hn (tr_A hT q h))⟩

theorem tt_topOf (l : Launch) (G : cG) (S : cS) (N : Nat) (n : Int32) (hC : CL S) (hT : TI S N) (Hs : Heap) : Met l yX3_topOf (wC yX3_topOf cX3_topOf 4 (some .int)) (cRm S 2 42) (cPc G S Hs [.ref (ga G 1), .int n]) (cQi G S Hs (fun v u => AW [] [] S u ∧ (u = S ∧ v = t_up ((kF S 2)) N 120 n))) (CC - PT S) (12 * (CC - PT S)) (cA G S Hs.size) := by
  refine Met.conv (g_topOf l (gD G).1 (gD G).2 (gI G) ((ga G 1)) ((kH S)) ((kQ S)) N ((kN S 0)) ((kN S 1)) ((kN S 2)) ((kN S 3)) ((kN S 4)) ((kN S 5)) ((kF S 0)) ((kF S 1)) ((kF S 2)) ((kF S 3)) ((kF S 4)) ((kF S 5)) n (hT.tok hC) Hs.size) (fun w h => (show ∀ w ∈ wsX3_topOf, w ∈ (wC yX3_topOf cX3_topOf 4 (some .int)) from fun w h => List.mem_cons_of_mem _ ((List.forall_mem_cons.mpr ⟨C_235, (cm_app (cm_app (List.forall_mem_cons.mpr ⟨C_236, (List.forall_mem_cons.mpr ⟨C_237, (List.forall_mem_cons.mpr ⟨C_238, (List.forall_mem_cons.mpr ⟨C_6, (List.forall_mem_cons.mpr ⟨C_239, (List.forall_mem_cons.mpr ⟨C_28, (List.forall_mem_cons.mpr ⟨C_200, (List.forall_mem_cons.mpr ⟨C_201, (List.forall_mem_cons.mpr ⟨C_202, (List.forall_mem_cons.mpr ⟨C_25, (List.forall_mem_cons.mpr ⟨C_203, (List.forall_mem_cons.mpr ⟨C_89, (List.forall_mem_cons.mpr ⟨C_37, cm_0⟩)⟩)⟩)⟩)⟩)⟩)⟩)⟩)⟩)⟩)⟩)⟩)⟩) cu_in3) cu_in0)⟩) w h)) w h) (Nat.le_refl _) (Nat.le_refl _) (Nat.zero_le _) (Nat.zero_le _) (Nat.zero_le _) (Nat.zero_le _) ?_ ?_ (tr_A hT)
  · rintro a s ⟨e0, e1, hP, hK, hD, -⟩
    exact ⟨e0, by rw [e1], tr_P hT (by rw [e1]; exact hP), cK_i hK, tr_D hT hD⟩
  · rintro a s o t hpc ⟨⟨v, u0, eo, hv, hP1, hK1, hD1⟩, hF⟩ ⟨L, hE⟩
    exact ⟨⟨v, S, eo, ⟨AW.rf, rfl, hv⟩, cB_of tps hpc hF hE hP1 hD1 rfl (tr_1 hT) (tr_at hT) (fun _ _ => rfl) (Nat.zero_le _) (Nat.zero_le _) (Nat.le_refl _) hC HS.rf⟩, hF.1, fun q hq hn => hF.2 q hq (fun h => hn (tr_A hT q h))⟩

theorem tt_binderOf (l : Launch) (G : cG) (S : cS) (N : Nat) (a : Int32) (top : Int32) (hC : CL S) (hT : TI S N) (Hs : Heap) : Met l yX3_binderOf (wC yX3_binderOf cX3_binderOf 6 (some .int)) (cRm S 3 66) (cPc G S Hs [.ref (ga G 1), .int a, .int top]) (cQi G S Hs (fun v u => AW [] [] S u ∧ (u = S ∧ v = t_binder ((kF S 0)) ((kF S 1)) ((kF S 2)) ((kF S 3)) ((kF S 4)) N a top 120 a))) (CC - PT S) (12 * (CC - PT S)) (cA G S Hs.size) := by
  refine Met.conv (g_binderOf l (gD G).1 (gD G).2 (gI G) ((ga G 1)) ((kH S)) ((kQ S)) N ((kN S 0)) ((kN S 1)) ((kN S 2)) ((kN S 3)) ((kN S 4)) ((kN S 5)) ((kF S 0)) ((kF S 1)) ((kF S 2)) ((kF S 3)) ((kF S 4)) ((kF S 5)) a top (hT.tok hC) Hs.size) (fun w h => (show ∀ w ∈ wsX3_binderOf, w ∈ (wC yX3_binderOf cX3_binderOf 6 (some .int)) from fun w h => List.mem_cons_of_mem _ ((List.forall_mem_cons.mpr ⟨C_293, (cm_app (cm_app (cm_app (List.forall_mem_cons.mpr ⟨C_236, (List.forall_mem_cons.mpr ⟨C_237, (List.forall_mem_cons.mpr ⟨C_238, (List.forall_mem_cons.mpr ⟨C_6, (List.forall_mem_cons.mpr ⟨C_239, (List.forall_mem_cons.mpr ⟨C_28, (List.forall_mem_cons.mpr ⟨C_200, (List.forall_mem_cons.mpr ⟨C_201, (List.forall_mem_cons.mpr ⟨C_202, (List.forall_mem_cons.mpr ⟨C_25, (List.forall_mem_cons.mpr ⟨C_203, (List.forall_mem_cons.mpr ⟨C_89, (List.forall_mem_cons.mpr ⟨C_37, (List.forall_mem_cons.mpr ⟨C_294, (List.forall_mem_cons.mpr ⟨C_266, (List.forall_mem_cons.mpr ⟨C_267, (List.forall_mem_cons.mpr ⟨C_268, (List.forall_mem_cons.mpr ⟨C_27, (List.forall_mem_cons.mpr ⟨C_295, (List.forall_mem_cons.mpr ⟨C_296, (List.forall_mem_cons.mpr ⟨C_297, (List.forall_mem_cons.mpr ⟨C_298, (List.forall_mem_cons.mpr ⟨C_299, (List.forall_mem_cons.mpr ⟨C_241, cm_0⟩)⟩)⟩)⟩)⟩)⟩)⟩)⟩)⟩)⟩)⟩)⟩)⟩)⟩)⟩)⟩)⟩)⟩)⟩)⟩)⟩)⟩)⟩)⟩) (List.forall_mem_cons.mpr ⟨C_242, (List.forall_mem_cons.mpr ⟨C_243, (List.forall_mem_cons.mpr ⟨C_26, (List.forall_mem_cons.mpr ⟨C_300, (List.forall_mem_cons.mpr ⟨C_271, (List.forall_mem_cons.mpr ⟨C_272, (List.forall_mem_cons.mpr ⟨C_273, (List.forall_mem_cons.mpr ⟨C_29, (List.forall_mem_cons.mpr ⟨C_30, cm_0⟩)⟩)⟩)⟩)⟩)⟩)⟩)⟩)⟩)) cu_in3) cu_in0)⟩) w h)) w h) (Nat.le_refl _) (Nat.le_refl _) (Nat.zero_le _) (Nat.zero_le _) (Nat.zero_le _) (Nat.zero_le _) ?_ ?_ (tr_A hT)
  · rintro a s ⟨e0, e1, hP, hK, hD, -⟩
    exact ⟨e0, by rw [e1], tr_P hT (by rw [e1]; exact hP), cK_i hK, tr_D hT hD⟩
  · rintro a s o t hpc ⟨⟨v, u0, eo, hv, hP1, hK1, hD1⟩, hF⟩ ⟨L, hE⟩
    exact ⟨⟨v, S, eo, ⟨AW.rf, rfl, hv⟩, cB_of tps hpc hF hE hP1 hD1 rfl (tr_1 hT) (tr_at hT) (fun _ _ => rfl) (Nat.zero_le _) (Nat.zero_le _) (Nat.le_refl _) hC HS.rf⟩, hF.1, fun q hq hn => hF.2 q hq (fun h => hn (tr_A hT q h))⟩

theorem tt_canBeParts (l : Launch) (G : cG) (S : cS) (N : Nat) (many : Int32) (na : Int32) (nb : Int32) (nc : Int32) (hC : CL S) (hT : TI S N) (Hs : Heap) : Met l yX3_canBeParts (wC yX3_canBeParts cX3_canBeParts 5 (some .boolean)) (cRm S 3 63) (cPc G S Hs [.ref (ga G 1), .int many, .int na, .int nb, .int nc]) (cQi G S Hs (fun v u => AW [] [] S u ∧ (u = S ∧ v = t_can ((kF S 2)) N many na nb nc))) (CC - PT S) (12 * (CC - PT S)) (cA G S Hs.size) := by
  refine Met.conv (g_canBeParts l (gD G).1 (gD G).2 (gI G) ((ga G 1)) ((kH S)) ((kQ S)) N ((kN S 0)) ((kN S 1)) ((kN S 2)) ((kN S 3)) ((kN S 4)) ((kN S 5)) ((kF S 0)) ((kF S 1)) ((kF S 2)) ((kF S 3)) ((kF S 4)) ((kF S 5)) many na nb nc (hT.tok hC) Hs.size) (fun w h => (show ∀ w ∈ wsX3_canBeParts, w ∈ (wC yX3_canBeParts cX3_canBeParts 5 (some .boolean)) from fun w h => List.mem_cons_of_mem _ ((List.forall_mem_cons.mpr ⟨C_187, (cm_app (cm_app (List.forall_mem_cons.mpr ⟨C_188, (List.forall_mem_cons.mpr ⟨C_189, (List.forall_mem_cons.mpr ⟨C_190, (List.forall_mem_cons.mpr ⟨C_6, (List.forall_mem_cons.mpr ⟨C_191, (List.forall_mem_cons.mpr ⟨C_28, (List.forall_mem_cons.mpr ⟨C_192, (List.forall_mem_cons.mpr ⟨C_193, (List.forall_mem_cons.mpr ⟨C_194, (List.forall_mem_cons.mpr ⟨C_195, (List.forall_mem_cons.mpr ⟨C_26, (List.forall_mem_cons.mpr ⟨C_196, (List.forall_mem_cons.mpr ⟨C_197, (List.forall_mem_cons.mpr ⟨C_198, (List.forall_mem_cons.mpr ⟨C_25, (List.forall_mem_cons.mpr ⟨C_199, (List.forall_mem_cons.mpr ⟨C_89, (List.forall_mem_cons.mpr ⟨C_200, (List.forall_mem_cons.mpr ⟨C_201, (List.forall_mem_cons.mpr ⟨C_202, (List.forall_mem_cons.mpr ⟨C_203, (List.forall_mem_cons.mpr ⟨C_37, cm_0⟩)⟩)⟩)⟩)⟩)⟩)⟩)⟩)⟩)⟩)⟩)⟩)⟩)⟩)⟩)⟩)⟩)⟩)⟩)⟩)⟩)⟩) cu_in3) cu_in0)⟩) w h)) w h) (Nat.le_refl _) (Nat.le_refl _) (Nat.zero_le _) (Nat.zero_le _) (Nat.zero_le _) (Nat.zero_le _) ?_ ?_ (tr_A hT)
  · rintro a s ⟨e0, e1, hP, hK, hD, -⟩
    exact ⟨e0, by rw [e1], tr_P hT (by rw [e1]; exact hP), cK_i hK, tr_D hT hD⟩
  · rintro a s o t hpc ⟨⟨v, u0, eo, hv, hP1, hK1, hD1⟩, hF⟩ ⟨L, hE⟩
    exact ⟨⟨v, S, eo, ⟨AW.rf, rfl, hv⟩, cB_of tps hpc hF hE hP1 hD1 rfl (tr_1 hT) (tr_at hT) (fun _ _ => rfl) (Nat.zero_le _) (Nat.zero_le _) (Nat.le_refl _) hC HS.rf⟩, hF.1, fun q hq hn => hF.2 q hq (fun h => hn (tr_A hT q h))⟩

set_option maxRecDepth 100000 in
theorem tt_addPart (l : Launch) (G : cG) (S : cS) (N : Nat) (o9 : Int32) (la : Int32) (pt : Int32) (hC : CL S) (hT : TI S N) (Hs : Heap) : Met l yX3_addPart (wC yX3_addPart cX3_addPart 5 none) (cRm S 2 42) (cPc G S Hs [.ref (ga G 1), .int o9, .int la, .int pt]) (cQv G S Hs (fun u => AW [2, 3, 4, 5] [] S u ∧ (u = uT S (a_f2 (kF S 2) (kF S 3) N o9 pt) (a_f3 (kF S 3) N o9) (a_g (kF S 4) (kF S 3) N o9 pt) (a_g (kF S 5) (kF S 3) N o9 la)))) (CC - PT S) (12 * (CC - PT S)) (cA G S Hs.size) := by
  refine Met.conv (g_addPart l (gD G).1 (gD G).2 (gI G) ((ga G 1)) ((kH S)) ((kQ S)) N ((kN S 0)) ((kN S 1)) ((kN S 2)) ((kN S 3)) ((kN S 4)) ((kN S 5)) ((kF S 0)) ((kF S 1)) ((kF S 2)) ((kF S 3)) ((kF S 4)) ((kF S 5)) o9 la pt (hT.tok hC) Hs.size) (fun w h => (show ∀ w ∈ wsX3_addPart, w ∈ (wC yX3_addPart cX3_addPart 5 none) from fun w h => List.mem_cons_of_mem _ ((List.forall_mem_cons.mpr ⟨C_218, (cm_app (cm_app (List.forall_mem_cons.mpr ⟨C_30, (List.forall_mem_cons.mpr ⟨C_31, (List.forall_mem_cons.mpr ⟨C_29, (List.forall_mem_cons.mpr ⟨C_28, (List.forall_mem_cons.mpr ⟨C_219, (List.forall_mem_cons.mpr ⟨C_220, (List.forall_mem_cons.mpr ⟨C_221, (List.forall_mem_cons.mpr ⟨C_6, (List.forall_mem_cons.mpr ⟨C_222, (List.forall_mem_cons.mpr ⟨C_223, (List.forall_mem_cons.mpr ⟨C_139, (List.forall_mem_cons.mpr ⟨C_111, (List.forall_mem_cons.mpr ⟨C_140, (List.forall_mem_cons.mpr ⟨C_200, (List.forall_mem_cons.mpr ⟨C_201, (List.forall_mem_cons.mpr ⟨C_202, (List.forall_mem_cons.mpr ⟨C_25, (List.forall_mem_cons.mpr ⟨C_203, (List.forall_mem_cons.mpr ⟨C_89, (List.forall_mem_cons.mpr ⟨C_37, (List.forall_mem_cons.mpr ⟨C_224, (List.forall_mem_cons.mpr ⟨C_225, (List.forall_mem_cons.mpr ⟨C_226, (List.forall_mem_cons.mpr ⟨C_227, cm_0⟩)⟩)⟩)⟩)⟩)⟩)⟩)⟩)⟩)⟩)⟩)⟩)⟩)⟩)⟩)⟩)⟩)⟩)⟩)⟩)⟩)⟩)⟩)⟩) cu_in3) cu_in0)⟩) w h)) w h) (Nat.le_refl _) (Nat.le_refl _) (Nat.zero_le _) (Nat.zero_le _) (Nat.zero_le _) (Nat.zero_le _) ?_ ?_ (tr_A hT)
  · rintro a s ⟨e0, e1, hP, hK, hD, -⟩
    exact ⟨e0, by rw [e1], tr_P hT (by rw [e1]; exact hP), cK_i hK, tr_D hT hD⟩
  · rintro a s o t hpc ⟨⟨u0, eo, hv, hP1, hK1, hD1⟩, hF⟩ ⟨L, hE⟩
    obtain ⟨u, eu⟩ : ∃ u, u = uT S (a_f2 (kF S 2) (kF S 3) N o9 pt) (a_f3 (kF S 3) N o9) (a_g (kF S 4) (kF S 3) N o9 pt) (a_g (kF S 5) (kF S 3) N o9 la) := ⟨_, rfl⟩
    have hTu : TI u N := by rw [eu]; exact hT
    have hag : AG (fun x => x = 2 ∨ x = 3 ∨ x = 4 ∨ x = 5) S u := by rw [eu]; exact uT_ag
    have hPu : va_P (gD G) vwCl (trc G u N) t.heap := by rw [eu, uT_w]; exact hP1
    have hDu : va_D (va_A (trc G S N) Hs.size) (trc G u N) := by rw [eu, uT_w]; exact hD1
    exact ⟨⟨u, eo, ⟨by rw [eu]; exact uT_AW, eu⟩, cB_of tps hpc hF hE hPu hDu (by rw [eu]; rfl) (tr_1 hT) (tr_at hTu) (fun k hk => hag.cE (fun r hr => by omega) k (fun r hr => by
      simp only [tps, List.mem_cons, List.not_mem_nil, or_false, not_or] at hk
      omega)) (Nat.zero_le _) (Nat.zero_le _) (by rw [eu]; exact Nat.le_refl _) (by rw [eu]; exact hC) (by rw [eu]; exact HS.rf)⟩, hF.1, fun q hq hn => hF.2 q hq (fun h => hn (tr_A hT q h))⟩

