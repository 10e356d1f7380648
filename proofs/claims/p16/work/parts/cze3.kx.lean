/-! ===== copying: what a call says of the class's rows ===== -/
theorem q_stops (s : aS) (a b : Nat) : (stops s a b).2.2 = s.2.2 := by
  unfold stops
  split
  · rfl
  · rfl
theorem q_mkA (s : aS) (a b : Nat) : (mkA s a b).1.2.2 = s.2.2 := by
  unfold mkA
  split
  · rfl
  · split
    · exact q_stops _ _ _
    · rfl
theorem q_mkR (s : aS) (a b : List Nat) : (mkR s a b).1.2.2 = s.2.2 := by
  unfold mkR
  split
  · rfl
  · split
    · exact q_stops _ _ _
    · rfl
theorem n_stops (s : aS) (a b : Nat) : nT (stops s a b) = nT s := by
  unfold stops
  split
  · rfl
  · rfl
def XE (S u : cS) (Y tm : Nat) (r : aS × Nat) (v : Int32) : Prop := KT u r.1 ∧ KM u r.1 tm ∧ KQ u r.1 ∧ (∀ j, j < Y → kF u 12 j = kF S 12 j ∧ kF u 13 j = kF S 13 j) ∧ (sto r.1 = 0 → v = nI r.2 ∧ r.2 < nT r.1) ∧ (sto r.1 ≠ 0 → v = sc (sto r.1))
theorem XE.good {S u : cS} {Y tm x : Nat} {w : aS} {r : aS × Nat} {v : Int32} (kt : KT u w) (km : KM u w tm) (kq : KQ u w) (sg : ∀ j, j < Y → kF u 12 j = kF S 12 j ∧ kF u 13 j = kF S 13 j) (h0 : sto w = 0) (hv : v = nI x) (hx : x < nT w) (e : r = (w, x)) : XE S u Y tm r v := by
  subst e
  exact ⟨kt, km, kq, sg, fun _ => ⟨hv, hx⟩, fun h => absurd h0 h⟩
theorem XE.stp {S u : cS} {Y tm x : Nat} {w : aS} {r : aS × Nat} {v : Int32} (kt : KT u w) (km : KM u w tm) (kq : KQ u w) (sg : ∀ j, j < Y → kF u 12 j = kF S 12 j ∧ kF u 13 j = kF S 13 j) (h0 : sto w ≠ 0) (hv : v = sc (sto w)) (e : r = (w, x)) : XE S u Y tm r v := by
  subst e
  exact ⟨kt, km, kq, sg, fun h => absurd h h0, fun _ => hv⟩
/-- SPENT: the state as it was -/
theorem XE.full {S u : cS} {Y tm p x : Nat} {w : aS} {r : aS × Nat} (kt : KT u w) (km : KM u w tm) (kq : KQ u w) (sg : ∀ j, j < Y → kF u 12 j = kF S 12 j ∧ kF u 13 j = kF S 13 j) (h0 : sto w = 0) (e : r = (stops w 1 p, x)) : XE S u Y tm r (-6) := by
  have h1 : sto (stops w 1 p) = 1 := by
    rw [show stops w 1 p = w1 (w1 w 0 3 1) 0 4 (p + 1) from if_pos h0]
    rfl
  refine XE.stp (kt_stops kt 1 p) ?_ ?_ sg (by rw [h1]; decide) (by rw [h1]; rfl) e
  · exact KM.aw km (rs := []) (is := []) AW.rf (by decide) (me_stops w 1 p) (Nat.le_of_eq (n_stops w 1 p).symm)
  · exact KQ.aw kq (rs := []) (is := []) AW.rf (by decide) (q_stops w 1 p) (n_stops w 1 p)
theorem mkA_st {s : aS} {a b : Nat} (h : sto s ≠ 0) : mkA s a b = (s, 0) := if_pos h
theorem mkR_st {s : aS} {a b : List Nat} (h : sto s ≠ 0) : mkR s a b = (s, 0) := if_pos h
theorem sg_tr {S S1 u : cS} {Y Y1 : Nat} (h : ∀ j, j < Y → kF S1 12 j = kF S 12 j ∧ kF S1 13 j = kF S 13 j) (h' : ∀ j, j < Y1 → kF u 12 j = kF S1 12 j ∧ kF u 13 j = kF S1 13 j) (hY : Y ≤ Y1) : ∀ j, j < Y → kF u 12 j = kF S 12 j ∧ kF u 13 j = kF S 13 j := fun j hj => ⟨(h' j (Nat.lt_of_lt_of_le hj hY)).1.trans (h j hj).1, (h' j (Nat.lt_of_lt_of_le hj hY)).2.trans (h j hj).2⟩
theorem sg_aw {rs is : List Nat} {S S1 u : cS} {Y : Nat} (h : ∀ j, j < Y → kF S1 12 j = kF S 12 j ∧ kF S1 13 j = kF S 13 j) (a : AW rs is S1 u) (hr : 12 ∉ rs ∧ 13 ∉ rs) : ∀ j, j < Y → kF u 12 j = kF S 12 j ∧ kF u 13 j = kF S 13 j := fun j hj => by
  rw [(a.2.1 12 (lt35 (by decide)) hr.1).1, (a.2.1 13 (lt35 (by decide)) hr.2).1]
  exact h j hj
theorem KM.rd {S : cS} {z : aS} {tm q : Nat} (h : KM S z tm) (hq : q < 300) (htm : tm < 2 ^ 30) : (memo z q = 0 → ¬ rget (kF S 26) (kK S 26) (nI q) = nI tm) ∧ (memo z q ≠ 0 → rget (kF S 26) (kK S 26) (nI q) = nI tm ∧ rget (kF S 25) (kK S 25) (nI q) = nI (memo z q - 1) ∧ memo z q ≤ nT z) := by
  obtain ⟨k25, k26, hm⟩ := h
  obtain ⟨h1, h2⟩ := hm q hq
  rw [k25, k26, rget_at hq (by decide), rget_at hq (by decide)]
  refine ⟨fun e => ?_, h2⟩
  rcases h1 e with h3 | ⟨j, hj, h3⟩
  · rw [h3]
    exact fun h => absurd h.symm (nI_neg (by decide) (by omega))
  · rw [h3]
    exact fun h => by
      have := (nI_eq (by omega) (by omega)).mp h
      omega
/-- the rows' lists, seen from an earlier time -/
theorem KT.pl {S : cS} {s0 z : aS} {t sd i : Nat} (h : KT S z) (hL : Lx s0 z) (ht : t < nT s0) (h3 : srt s0 t = 3) (hsd : sd < 2) (hi : i < (row s0 sd t).length) (hk : kK S (35 + (2 * one s0 t + sd)) < 2 ^ 31) : rget (kF S (35 + (2 * one s0 t + sd))) (kK S (35 + (2 * one s0 t + sd))) (nI i) = nI ((row s0 sd t).getD i 0) ∧ (row s0 sd t).getD i 0 < nT z := by
  obtain ⟨g1, g2⟩ := hL.row ht hsd hi
  obtain ⟨e1, -, e3, -⟩ := hL.2.2.1 t ht
  have ht' : t < nT z := Nat.lt_of_lt_of_le ht hL.1
  obtain ⟨b1, b2⟩ := h.bn ht' (e1.trans h3) hsd
  rw [e3] at b1 b2
  obtain ⟨b3, b4⟩ := b2 i (by omega)
  rw [g1] at b3 b4
  rw [b1] at hk
  exact ⟨rget_k (by rw [b1]; omega) (by rw [b1]; exact hk) b3, b4⟩
/-- copying goes on: the machine's next state, told of the class -/
def KX (u : cS) (z : aS) (tm : Nat) : Prop := KT u z ∧ KM u z tm ∧ KQ u z ∧ sto z = 0
theorem kx_fun {S u : cS} {z : aS} {tm a b : Nat} (kt : KT u (mkA z a b).1) (km : KM S z tm) (kq : KQ S z) (hw : AW [6, 7, 8, 9, 16] [] S u) (la : kF u 16 (nT z) = -9 ∧ ∀ t, t < nT z → kF u 16 t = kF S 16 t) (k16 : kK u 16 = nT z + 1) (h0 : sto z = 0) (ht : nT z ≠ 602) : KM u (mkA z a b).1 tm ∧ KQ u (mkA z a b).1 := by
  have en : nT (mkA z a b).1 = nT z + 1 := by rw [mkA_e h0 ht]; rfl
  have q : ∀ r, r < 35 → r ∉ [6, 7, 8, 9, 16] → kF u r = kF S r ∧ kK u r = kK S r := fun r h1 h2 => hw.2.1 r (by omega) (by rw [Nat.min_eq_left (by omega)]; exact h2)
  exact ⟨km.aw hw (by decide) (me_mkA z a b) (by omega), kq.new (q_mkA z a b) en ⟨k16, la⟩ ⟨(q 17 (by decide) (by decide)).1, (q 18 (by decide) (by decide)).1, (q 17 (by decide) (by decide)).2, (q 18 (by decide) (by decide)).2⟩⟩
theorem kx_rec {S u : cS} {z : aS} {tm : Nat} {a b : List Nat} (km : KM S z tm) (kq : KQ S z) (hw : AW [6, 7, 8, 9, 16, 10, 11, 12, 13] [] S u) (la : kF u 16 (nT z) = -9 ∧ ∀ t, t < nT z → kF u 16 t = kF S 16 t) (k16 : kK u 16 = nT z + 1) (h0 : sto z = 0) (ht : nT z ≠ 602) : KM u (mkR z a b).1 tm ∧ KQ u (mkR z a b).1 := by
  have en : nT (mkR z a b).1 = nT z + 1 := by rw [mkR_e h0 ht]; rfl
  have q : ∀ r, r < 35 → r ∉ [6, 7, 8, 9, 16, 10, 11, 12, 13] → kF u r = kF S r ∧ kK u r = kK S r := fun r h1 h2 => hw.2.1 r (by omega) (by rw [Nat.min_eq_left (by omega)]; exact h2)
  exact ⟨km.aw hw (by decide) (me_mkR z a b) (by omega), kq.new (q_mkR z a b) en ⟨k16, la⟩ ⟨(q 17 (by decide) (by decide)).1, (q 18 (by decide) (by decide)).1, (q 17 (by decide) (by decide)).2, (q 18 (by decide) (by decide)).2⟩⟩
theorem kx_var {S u : cS} {z : aS} {tm l : Nat} (km : KM S z tm) (kq : KQ S z) (hw : AW [6, 7, 8, 9, 16, 14, 35] [] S u) (la : kF u 16 (nT z) = -9 ∧ ∀ t, t < nT z → kF u 16 t = kF S 16 t) (k16 : kK u 16 = nT z + 1) : KM u (newV z l) tm ∧ KQ u (newV z l) := by
  have q : ∀ r, r < 35 → r ∉ [6, 7, 8, 9, 16, 14, 35] → kF u r = kF S r ∧ kK u r = kK S r := fun r h1 h2 => hw.2.1 r (by omega) (by rw [Nat.min_eq_left (by omega)]; exact h2)
  exact ⟨km.aw hw (by decide) (me_newV z l) (Nat.le_succ _), kq.new rfl rfl ⟨k16, la⟩ ⟨(q 17 (by decide) (by decide)).1, (q 18 (by decide) (by decide)).1, (q 17 (by decide) (by decide)).2, (q 18 (by decide) (by decide)).2⟩⟩
theorem KT.bof {S : cS} {z : aS} {t sd r T V : Nat} (h : KT S z) (ht : t < nT z) (h3 : srt z t = 3) (hb : (r = 15 ∧ rget (kF S 6) (kK S 6) (nI t) ≠ 4) ∨ ∃ j w, j < T ∧ nI t = nI j ∧ kF S 6 j = 4 ∧ w < V ∧ kF S 8 j = nI w ∧ r = 35 + (2 * w + sd)) (hT : T ≤ 602) (hV : V ≤ 150) : r = 35 + (2 * one z t + sd) := by
  have hn := h.1.2.2.2.2.2.2.2.1
  rcases hb with h1 | ⟨j, w, a, b, -, c, d, e⟩
  · exact absurd ((h.is ht (k := 4) (by decide) (by decide)).mpr (by omega)) h1.2
  · have ej := (nI_eq (by omega) (by omega)).mp b
    subst ej
    obtain ⟨g1, g2, -⟩ := h.2.2.2.2.1.1 t ht h3
    have hv := h.1.2.2.2.2.2.2.2.2.1
    have ew := (nI_eq (by omega) (by omega)).mp (d.symm.trans g1)
    rw [e, ew]
theorem lx_at {s0 s : aS} (h : Lx s0 s) {t : Nat} (ht : t < nT s0) : t < nT s ∧ srt s t = srt s0 t ∧ lev s t = lev s0 t ∧ one s t = one s0 t ∧ two s t = two s0 t ∧ parts s t = parts s0 t ∧ labs s t = labs s0 t := ⟨Nat.lt_of_lt_of_le ht h.1, h.2.2.1 t ht⟩
theorem KM.nw {S u : cS} {z : aS} {tm q l : Nat} (h : KM S (newV z l) tm) (k25 : kK u 25 = 300 ∧ kF u 25 q = nI (nT z) ∧ ∀ i, i ≠ q → kF u 25 i = kF S 25 i) (k26 : kK u 26 = 300 ∧ kF u 26 q = nI tm ∧ ∀ i, i ≠ q → kF u 26 i = kF S 26 i) : KM u (w1 (newV z l) 7 q (nT z + 1)) tm := by
  refine ⟨k25.1, k26.1, fun i hi => ?_⟩
  have hm : memo (w1 (newV z l) 7 q (nT z + 1)) i = if i = q then nT z + 1 else memo (newV z l) i := rfl
  rw [hm]
  by_cases e : i = q
  · subst e
    rw [if_pos rfl, k25.2.1, k26.2.1]
    exact ⟨fun h => absurd h (by omega), fun _ => ⟨rfl, rfl, Nat.le_refl _⟩⟩
  · rw [if_neg e, k25.2.2 i e, k26.2.2 i e]
    exact h.2.2 i hi
theorem cp_no2 {k t way ab lv : Nat} {z : aS} (h0 : sto z = 0) (h : ¬ lev z t ≤ ab) (h1 : srt z t = 3) (hm : memo z (mkey z t way) = 0) (hf : nV z = 150 ∨ nT z = 602) : cp (k + 1) z t way ab lv = (stops z 1 (askn z), 0) := by
  have e := mkV_f (l := lv) hf
  rw [cp_no h0 h h1 hm (by
    rw [e]
    show sto (stops z 1 (askn z)) ≠ 0
    rw [show stops z 1 (askn z) = w1 (w1 z 0 3 1) 0 4 (askn z + 1) from if_pos h0]
    exact Nat.one_ne_zero), e]
