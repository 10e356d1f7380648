/-! ===== the class's Teller: its state ===== -/
def TKw (z : aS) (S : cS) (r : Nat) (st : List (Nat × Nat × Nat)) (L : List Int32) (w : Nat → Bool) : Prop := (kK S 19 = st.length ∧ kK S 20 = st.length ∧ kK S 21 = st.length) ∧ SG S r L ∧ L.length ≤ 400 ∧ st.length ≤ L.length ∧ ST S st ∧ SV z st ∧ SO S w
def TKx (z : aS) (S : cS) (r : Nat) (st : List (Nat × Nat × Nat)) (L : List Int32) : Prop := TKw z S r st L (wsk z st)
theorem SO.aw {rs is : List Nat} {S u : cS} {w : Nat → Bool} (h : SO S w) (a : AW rs is S u) (hr : 22 ∉ rs) : SO u w := by
  obtain ⟨e1, e2⟩ := a.2.1 22 (lt35 (by decide)) hr
  unfold SO
  rw [e1, e2]
  exact h
theorem SO.on {S u : cS} {w : Nat → Bool} {a : Nat} (h : SO S w) (e : kF u 22 = upd (kF S 22) a 1) (hk : kK u 22 = kK S 22) : SO u (wor w a) := by
  refine ⟨hk.trans h.1, fun b hb => ?_⟩
  rw [e]
  by_cases q : b = a
  · rw [q, upd_s, wor_s]
    exact ⟨fun _ => rfl, fun _ => rfl⟩
  · rw [upd_n q, wor_n q]
    exact h.2 b hb
theorem SO.off {S u : cS} {w : Nat → Bool} {a : Nat} (h : SO S (wor w a)) (e : kF u 22 = upd (kF S 22) a (-9)) (hk : kK u 22 = kK S 22) (hw : w a = false) : SO u w := by
  refine ⟨hk.trans h.1, fun b hb => ?_⟩
  rw [e]
  by_cases q : b = a
  · rw [q, upd_s, hw]
    exact ⟨fun z => absurd z (by decide), fun z => absurd z (by decide)⟩
  · rw [upd_n q]
    have h2 := h.2 b hb
    rw [wor_n q] at h2
    exact h2
theorem SO.rd {S : cS} {w : Nat → Bool} {a : Nat} (h : SO S w) (ha : a < 300) : rget (kF S 22) (kK S 22) (nI a) = 1 ↔ w a = true := by
  rw [rget_at (by rw [h.1]; exact ha) (by rw [h.1]; decide)]
  exact h.2 a ha
theorem ST.aw {rs is : List Nat} {S u : cS} {st : List (Nat × Nat × Nat)} (h : ST S st) (a : AW rs is S u) (hr : ∀ r ∈ [19, 20, 21], r ∉ rs) : ST u st := h.to (fun r h1 j _ => by
  have e := (a.2.1 r (lt35 (by revert r; decide)) (by rw [Nat.min_eq_left (by revert r; decide)]; exact hr r h1)).1
  rw [e])
theorem TKw.aw {rs is : List Nat} {z : aS} {S u : cS} {r : Nat} {st : List (Nat × Nat × Nat)} {L L' : List Int32} {w : Nat → Bool} (h : TKw z S r st L w) (a : AW rs is S u) (hr : ∀ r ∈ [19, 20, 21, 22], r ∉ rs) (g : SG u r L') (h1 : L.length ≤ L'.length) (h4 : L'.length ≤ 400) : TKw z u r st L' w := by
  obtain ⟨⟨a1, a2, a3⟩, b, c, d, e, f, k⟩ := h
  exact ⟨⟨(a.2.1 19 (lt35 (by decide)) (hr 19 (by decide))).2.trans a1, (a.2.1 20 (lt35 (by decide)) (hr 20 (by decide))).2.trans a2, (a.2.1 21 (lt35 (by decide)) (hr 21 (by decide))).2.trans a3⟩, g, h4, Nat.le_trans d h1, e.aw a (fun r hm => hr r (by revert r; decide)), f, k.aw a (hr 22 (by decide))⟩
theorem TKw.on {z : aS} {S u : cS} {r a : Nat} {st : List (Nat × Nat × Nat)} {L : List Int32} {w : Nat → Bool} (h : TKw z S r st L w) (aw : AW [22] [] S u) (e : kF u 22 = upd (kF S 22) a 1) (hk : kK u 22 = kK S 22) (h4 : 400 ≤ r) (h5 : r < 403) : TKw z u r st L (wor w a) := by
  obtain ⟨⟨a1, a2, a3⟩, b, c, d, es, f, k⟩ := h
  exact ⟨⟨(aw.2.1 19 (lt35 (by decide)) (by decide)).2.trans a1, (aw.2.1 20 (lt35 (by decide)) (by decide)).2.trans a2, (aw.2.1 21 (lt35 (by decide)) (by decide)).2.trans a3⟩, b.aw aw h4 h5 (by intro z; cases z), c, d, es.aw aw (by decide), f, k.on e hk⟩
theorem TKx.top {z : aS} {S : cS} {r : Nat} {f : Nat × Nat × Nat} {st : List (Nat × Nat × Nat)} {L : List Int32} (h : TKx z S r (f :: st) L) : rget (kF S 19) (kK S 19) (nI st.length) = nI f.1 ∧ rget (kF S 20) (kK S 20) (nI st.length) = nI f.2.1 ∧ rget (kF S 21) (kK S 21) (nI st.length) = nI f.2.2 := by
  obtain ⟨⟨a1, a2, a3⟩, b, c, d, ⟨⟨e1, e2, e3⟩, -⟩, -, -⟩ := h
  have hl : (f :: st).length = st.length + 1 := rfl
  rw [rget_at (by omega) (by omega), rget_at (by omega) (by omega), rget_at (by omega) (by omega)]
  exact ⟨e1, e2, e3⟩
/-- the place goes on -/
theorem TKx.nx {z : aS} {S u : cS} {r t y p : Nat} {st : List (Nat × Nat × Nat)} {L : List Int32} (h : TKx z S r ((t, y, p) :: st) L) (a : AW [21] [] S u) (e : kF u 21 = upd (kF S 21) st.length (nI (p + 1))) (hk : kK u 21 = kK S 21) (h4 : 400 ≤ r) (h5 : r < 403) : TKx z u r ((t, y, p + 1) :: st) L := by
  obtain ⟨⟨a1, a2, a3⟩, b, c, d, ⟨⟨e1, e2, e3⟩, es⟩, ⟨⟨f1, f2, f4, f5⟩, fs⟩, k⟩ := h
  have e19 := a.2.1 19 (lt35 (by decide)) (by decide)
  have e20 := a.2.1 20 (lt35 (by decide)) (by decide)
  refine ⟨⟨e19.2.trans a1, e20.2.trans a2, hk.trans a3⟩, b.aw a h4 h5 (by intro z; cases z), c, d, ⟨⟨?_, ?_, ?_⟩, es.to (fun r hr j hj => ?_)⟩, ⟨⟨f1, f2, f4, f5⟩, fs⟩, k.aw a (by decide)⟩
  · rw [e19.1]
    exact e1
  · rw [e20.1]
    exact e2
  · rw [e]
    exact upd_s
  · simp only [List.mem_cons, List.not_mem_nil, or_false] at hr
    rcases hr with rfl | rfl | rfl
    · rw [e19.1]
    · rw [e20.1]
    · rw [e, upd_n (by omega)]
/-- a frame is put -/
theorem TKw.push {z : aS} {S A B C : cS} {r t y n1 n2 n3 q1 q2 q3 : Nat} {g1 g2 g3 : Nat → Int32} {st : List (Nat × Nat × Nat)} {L : List Int32} {w : Nat → Bool} (h : TKw z S r st L w) (hw : w = wsk z ((t, y, 0) :: st)) (ht : t < nT z) (hy : y < 2) (hs : srt z t ≠ 0) (hf : srt z t = 3 → wsk z st (2 * one z t + y) = false) (hl : st.length + 1 ≤ L.length) (h4 : 400 ≤ r) (h5 : r < 403)
    (u1 : A = uR S 19 (kK S 19 + 1) n1 q1 g1) (b1 : ∀ j, j < kK S 19 → g1 j = kF S 19 j) (c1 : g1 (kK S 19) = nI t)
    (u2 : B = uR A 20 (kK A 20 + 1) n2 q2 g2) (b2 : ∀ j, j < kK A 20 → g2 j = kF A 20 j) (c2 : g2 (kK A 20) = nI y)
    (u3 : C = uR B 21 (kK B 21 + 1) n3 q3 g3) (b3 : ∀ j, j < kK B 21 → g3 j = kF B 21 j) (c3 : g3 (kK B 21) = 0) : TKx z C r ((t, y, 0) :: st) L := by
  obtain ⟨⟨a1, a2, a3⟩, b, c, d, es, f, k⟩ := h
  have w1 : AW [19] [] S A := by rw [u1]; exact AW.u (by decide)
  have w2 : AW [20] [] A B := by rw [u2]; exact AW.u (by decide)
  have w3 : AW [21] [] B C := by rw [u3]; exact AW.u (by decide)
  have kA20 := (w1.2.1 20 (lt35 (by decide)) (by decide))
  have kA21 := (w1.2.1 21 (lt35 (by decide)) (by decide))
  have kB19 := (w2.2.1 19 (lt35 (by decide)) (by decide))
  have kB21 := (w2.2.1 21 (lt35 (by decide)) (by decide))
  have kC19 := (w3.2.1 19 (lt35 (by decide)) (by decide))
  have kC20 := (w3.2.1 20 (lt35 (by decide)) (by decide))
  have e1 := ad_F u1 b1 c1
  have e2 := ad_F u2 b2 c2
  have e3 := ad_F u3 b3 c3
  have l20 : kK A 20 = st.length := kA20.2.trans a2
  have l21 : kK B 21 = st.length := (kB21.2.trans kA21.2).trans a3
  have s1 : kK A 19 = st.length + 1 := by rw [u1]; exact uR_K.trans (congrArg (· + 1) a1)
  have s2 : kK B 20 = st.length + 1 := by rw [u2]; exact uR_K.trans (congrArg (· + 1) l20)
  have s3 : kK C 21 = st.length + 1 := by rw [u3]; exact uR_K.trans (congrArg (· + 1) l21)
  rw [a1] at e1
  rw [l20] at e2
  rw [l21] at e3
  refine ⟨⟨(kC19.2.trans kB19.2).trans s1, kC20.2.trans s2, s3⟩, ((b.aw w1 h4 h5 (by intro z; cases z)).aw w2 h4 h5 (by intro z; cases z)).aw w3 h4 h5 (by intro z; cases z), c, hl, ⟨⟨?_, ?_, ?_⟩, es.to (fun r hr j hj => ?_)⟩, ⟨⟨ht, hy, hs, hf⟩, f⟩, ?_⟩
  · rw [kC19.1, kB19.1]
    exact e1.2
  · rw [kC20.1]
    exact e2.2
  · exact e3.2
  · simp only [List.mem_cons, List.not_mem_nil, or_false] at hr
    rcases hr with rfl | rfl | rfl
    · rw [kC19.1, kB19.1]
      exact e1.1 j hj
    · rw [kC20.1, e2.1 j hj, kA20.1]
    · rw [e3.1 j hj, kB21.1, kA21.1]
  · rw [← hw]
    exact ((k.aw w1 (by decide)).aw w2 (by decide)).aw w3 (by decide)
/-- a frame goes -/
theorem TKx.pop {z : aS} {S u : cS} {r : Nat} {f : Nat × Nat × Nat} {st : List (Nat × Nat × Nat)} {L : List Int32} (h : TKx z S r (f :: st) L) (hK : kK u 19 = st.length ∧ kK u 20 = st.length ∧ kK u 21 = st.length) (hF : kF u 19 = kF S 19 ∧ kF u 20 = kF S 20 ∧ kF u 21 = kF S 21) (hg : SG u r L) (h22 : kK u 22 = kK S 22 ∧ ((srt z f.1 ≠ 3 ∧ kF u 22 = kF S 22) ∨ (srt z f.1 = 3 ∧ kF u 22 = upd (kF S 22) (2 * one z f.1 + f.2.1) (-9)))) : TKx z u r st L := by
  obtain ⟨⟨a1, a2, a3⟩, b, c, d, ⟨-, es⟩, ⟨⟨f1, f2, f4, f5⟩, fs⟩, k⟩ := h
  have d : st.length + 1 ≤ L.length := d
  refine ⟨hK, hg, c, Nat.le_of_succ_le d, es.to (fun r hr j _ => ?_), fs, ?_⟩
  · simp only [List.mem_cons, List.not_mem_nil, or_false] at hr
    rcases hr with rfl | rfl | rfl
    · rw [hF.1]
    · rw [hF.2.1]
    · rw [hF.2.2]
  · obtain ⟨k1, ⟨q, e⟩ | ⟨q, e⟩⟩ := h22
    · have e9 : wsk z (f :: st) = wsk z st := if_neg q
      rw [e9] at k
      refine ⟨k1.trans k.1, fun a ha => ?_⟩
      rw [e]
      exact k.2 a ha
    · have e9 : wsk z (f :: st) = wor (wsk z st) (2 * one z f.1 + f.2.1) := if_pos q
      rw [e9] at k
      exact k.off e k1 (f5 q)
