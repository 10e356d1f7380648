/-! ===== the class's WORKING is the machine ===== -/
def sgt (k : Nat) : Int32 := if k = 0 then -9 else nI (k - 1)
theorem sgt_s {k : Nat} : sgt (k + 1) = nI k := by
  unfold sgt
  rw [if_neg (by omega), Nat.add_sub_cancel]
theorem sgt_p {k : Nat} (h : k ≠ 0) : sgt k = nI (k - 1) := if_neg h
theorem sgt_9 {k : Nat} (hk : k < 1000) : sgt k = -9 ↔ k = 0 := by
  unfold sgt
  by_cases h : k = 0
  · rw [if_pos h]
    exact ⟨fun _ => h, fun _ => rfl⟩
  · rw [if_neg h]
    exact ⟨fun z => absurd z (nI_neg (by decide) (by omega)), fun z => absurd z h⟩
def ans (r : wmS × Nat) : Int32 := if hlt r.1 = 0 then nI r.2 else if hlt r.1 = 1 then -3 else -6
theorem ans_go {a : wmS} {x : Nat} (h : hlt a = 0) : ans (a, x) = nI x := if_pos h
theorem ans_ge {a : wmS} {x : Nat} {v : Int32} (hv : v = ans (a, x)) (h : 0 ≤ v) : hlt a = 0 := by
  by_cases hz : hlt a = 0
  · exact hz
  · have e : ans (a, x) = if hlt a = 1 then -3 else -6 := if_neg hz
    rw [hv, e] at h
    by_cases h1 : hlt a = 1
    · rw [if_pos h1] at h
      exact absurd h (by decide)
    · rw [if_neg h1] at h
      exact absurd h (by decide)
theorem ans_lt {a : wmS} {x : Nat} {v : Int32} (hv : v = ans (a, x)) (hx : hlt a = 0 → x < 1000) (h : ¬ 0 ≤ v) : hlt a ≠ 0 := fun hz => by
  rw [hv, ans_go hz] at h
  exact h (Int32.not_lt.mp (nI_n0 (by have := hx hz; omega)))
theorem ans_st {a : wmS} {x y : Nat} (h : hlt a ≠ 0) : ans (a, x) = ans (a, y) := by
  have e : ∀ x, ans (a, x) = if hlt a = 1 then -3 else -6 := fun x => if_neg h
  rw [e, e]
/-- the tree, as WORKING needs it -/
def TC (S : cS) (tr : aM) (mk : Nat → Int32) (N : Nat) : Prop := TI S N ∧ ∀ n, n < N → kF S 0 n = nI (tr 0 n) ∧ kF S 1 n = mk n ∧ ((tr 0 n = 2 ∨ tr 0 n = 3 ∨ tr 0 n = 6 ∨ tr 0 n = 7 ∨ tr 0 n = 8) → mk n = nI (tr 1 n) ∧ tr 1 n < 26) ∧ kF S 3 n = nI (tr 2 n) ∧ tr 2 n ≤ 6 ∧ tr 0 n ≤ 11 ∧ prts (tr 0 n) (tr 2 n) = tr 2 n ∧ (∀ i, i < tr 2 n → kF S 4 (6 * n + i) = nI (tr (10 + i) n) ∧ tr (10 + i) n < N) ∧ (tr 0 n = 5 → ∀ i, i < tr 2 n → kF S 5 (6 * n + i) = nI (tr (20 + i) n) ∧ tr (20 + i) n < 26)
theorem TC.aw {rs is : List Nat} {S u : cS} {tr : aM} {mk : Nat → Int32} {N : Nat} (h : TC S tr mk N) (a : AW rs is S u) (hr : ∀ r ∈ [0, 1, 2, 3, 4, 5], r ∉ rs) : TC u tr mk N := by
  have e : ∀ r, r ∈ [0, 1, 2, 3, 4, 5] → kF u r = kF S r := fun r hm => (a.2.1 r (by simp only [List.mem_cons, List.not_mem_nil, or_false] at hm; omega) (by
    rw [Nat.min_eq_left (by simp only [List.mem_cons, List.not_mem_nil, or_false] at hm; omega)]
    exact hr r hm)).1
  refine ⟨h.1.aw a hr, ?_⟩
  rw [e 0 (by decide), e 1 (by decide), e 3 (by decide), e 4 (by decide), e 5 (by decide)]
  exact h.2
section TCs
variable {S : cS} {tr : aM} {mk : Nat → Int32} {N n : Nat}
theorem TC.kind (h : TC S tr mk N) (hn : n < N) : rget (kF S 0) N (nI n) = nI (tr 0 n) := by
  rw [rget_at hn (by have := h.1.1; omega)]
  exact (h.2 n hn).1
theorem TC.mark (h : TC S tr mk N) (hn : n < N) : rget (kF S 1) N (nI n) = mk n := by
  rw [rget_at hn (by have := h.1.1; omega)]
  exact (h.2 n hn).2.1
theorem TC.let (h : TC S tr mk N) (hn : n < N) (hk : tr 0 n = 2 ∨ tr 0 n = 3 ∨ tr 0 n = 6 ∨ tr 0 n = 7 ∨ tr 0 n = 8) : rget (kF S 1) N (nI n) = nI (tr 1 n) := (h.mark hn).trans ((h.2 n hn).2.2.1 hk).1
theorem TC.part (h : TC S tr mk N) (hn : n < N) {i : Nat} (hi : i < prts (tr 0 n) (tr 2 n)) : t_part (kF S 3) (kF S 4) N (nI n) (nI i) = nI (tr (10 + i) n) := by
  obtain ⟨t0, t1, t2, t3, t4, t5, t6, t7, -⟩ := h.2 n hn
  rw [t6] at hi
  rw [part_at hn h.1.1 t3 t4 hi]
  exact (t7 i hi).1
theorem TC.plt (h : TC S tr mk N) (hn : n < N) {i : Nat} (hi : i < prts (tr 0 n) (tr 2 n)) : tr (10 + i) n < N := by
  obtain ⟨t0, t1, t2, t3, t4, t5, t6, t7, -⟩ := h.2 n hn
  rw [t6] at hi
  exact (t7 i hi).2
theorem TC.cnt (h : TC S tr mk N) (hn : n < N) : t_pc (kF S 3) N (nI n) = nI (tr 2 n) := by
  obtain ⟨t0, t1, t2, t3, t4, -⟩ := h.2 n hn
  exact pc_at hn (by have := h.1.1; omega) t3 (by omega)
theorem find_pl {g : Int32 → Int32} {x n : Nat} : ∀ m i, i + m ≤ 6 → (∀ j, i ≤ j → j < i + m → g (nI j) = nI (tr (20 + j) n) ∧ tr (20 + j) n < 26) → x < 26 → t_find g (nI x) m i = if wmpl tr n x m i < i + m then nI (wmpl tr n x m i) else -9
  | 0, i, _, _, _ => by
    show (-9 : Int32) = if i < i + 0 then nI i else -9
    rw [if_neg (by omega)]
  | m + 1, i, hm, h, hx => by
    unfold t_find wmpl
    obtain ⟨e1, e2⟩ := h i (Nat.le_refl _) (by omega)
    rw [e1]
    by_cases hq : tr (20 + i) n = x
    · rw [if_pos (by rw [hq]), if_pos hq, if_pos (by omega)]
    · rw [if_neg (fun z => hq ((nI_eq (by omega) (by omega)).mp z)), if_neg hq, find_pl m (i + 1) (by omega) (fun j h1 h2 => h j (by omega) (by omega)) hx]
      have ee : i + 1 + m = i + (m + 1) := by omega
      rw [ee]
theorem TC.place (h : TC S tr mk N) (hn : n < N) (h5 : tr 0 n = 5) {x : Nat} (hx : x < 26) : t_place (kF S 3) (kF S 5) N (nI n) (nI x) = if wmpl tr n x (tr 2 n) 0 < tr 2 n then nI (wmpl tr n x (tr 2 n) 0) else -9 := by
  obtain ⟨t0, t1, t2, t3, t4, t5, t6, t7, t8⟩ := h.2 n hn
  unfold t_place
  rw [h.cnt hn, nI_clamp (by omega), find_pl (tr := tr) (n := n) (x := x) (tr 2 n) 0 (by omega) (fun j _ hj => by
    rw [part_at hn h.1.1 t3 t4 (by omega)]
    exact t8 h5 j (by omega)) hx, Nat.zero_add]
end TCs
def VC (S : cS) (s : wmS) (f v : Nat) : Prop := kF S 27 v = nI (vso s v) ∧ (vso s v ≤ 1 → kF S 28 v = s.2.1 v) ∧ (vso s v = 2 → kF S 28 v = nI (vno s v) ∧ kF S 29 v = sgt (vse s v)) ∧ (vso s v = 3 → kF S 28 v = nI (vno s v) ∧ ∃ b, kF S 29 v = nI b ∧ b + (s.2.2 v).length ≤ f ∧ ∀ i, i < (s.2.2 v).length → kF S 30 (b + i) = nI ((s.2.2 v).getD i 0))
def EC (S : cS) (s : wmS) (k : Nat) : Prop := kF S 31 k = nI (ele s k) ∧ (ere s k = 0 → kF S 32 k = nI (eva s k)) ∧ kF S 33 k = sgt (ere s k) ∧ kF S 34 k = sgt (enx s k)
def RCw (S : cS) (s : wmS) (al f : Nat) : Prop := WR S al (wnv s) (ne s) f (bgn s) ∧ (∀ v, v < wnv s → VC S s f v) ∧ ∀ k, k < ne s → EC S s k
theorem VC.keep {S u : cS} {s s' : wmS} {f f' v : Nat} (h : VC S s f v) (x : Xt s s') (hv : v < wnv s) (hf : f ≤ f') (e27 : kF u 27 v = kF S 27 v) (e28 : kF u 28 v = kF S 28 v) (e29 : kF u 29 v = kF S 29 v) (e30 : ∀ j, j < f → kF u 30 j = kF S 30 j) : VC u s' f' v := by
  obtain ⟨h1, h2, h3, h4⟩ := h
  obtain ⟨a1, a2, a3, a4, a5⟩ := x.2.2.1 v hv
  unfold VC
  rw [a1, a2, a3, a4, a5, e27, e28, e29]
  refine ⟨h1, h2, h3, fun z => ?_⟩
  obtain ⟨b1, b, b2, b3, b4⟩ := h4 z
  exact ⟨b1, b, b2, by omega, fun i hi => (e30 (b + i) (by omega)).trans (b4 i hi)⟩
theorem EC.keep {S u : cS} {s s' : wmS} {k : Nat} (h : EC S s k) (x : Xt s s') (hk : k < ne s) (e31 : kF u 31 k = kF S 31 k) (e32 : kF u 32 k = kF S 32 k) (e33 : kF u 33 k = kF S 33 k) (e34 : kF u 34 k = kF S 34 k) : EC u s' k := by
  obtain ⟨a1, a2, a3, a4, a5⟩ := x.2.2.2 k hk
  unfold EC
  rw [a1, a2, a3, a4, e31, e32, e33, e34]
  exact h
section RCs
variable {S u : cS} {s : wmS} {al f : Nat}
theorem RCw.sz (h : RCw S s al f) : wnv s ≤ bgn s ∧ ne s ≤ bgn s ∧ bgn s ≤ al ∧ al ≤ 300 ∧ f ≤ 6 * bgn s := by
  obtain ⟨⟨-, -, -, -, -, a, b, c, d, e⟩, -⟩ := h
  exact ⟨c, d, a, b, e⟩
theorem RCw.aw {rs is : List Nat} (h : RCw S s al f) (a : AW rs is S u) (hr : ∀ r ∈ [27, 28, 29, 30, 31, 32, 33, 34], r ∉ rs) (hi : 110 ∉ is ∧ 111 ∉ is) : RCw u s al f := by
  have e : ∀ r, r ∈ [27, 28, 29, 30, 31, 32, 33, 34] → kF u r = kF S r := fun r hm => (a.2.1 r (by simp only [List.mem_cons, List.not_mem_nil, or_false] at hm; omega) (by
    rw [Nat.min_eq_left (by simp only [List.mem_cons, List.not_mem_nil, or_false] at hm; omega)]
    exact hr r hm)).1
  exact ⟨WR.aw h.1 a hr hi, fun v hv => (h.2.1 v hv).keep Xt.rf hv (Nat.le_refl _) (by rw [e 27 (by decide)]) (by rw [e 28 (by decide)]) (by rw [e 29 (by decide)]) (fun j _ => by rw [e 30 (by decide)]), fun k hk => (h.2.2 k hk).keep Xt.rf hk (by rw [e 31 (by decide)]) (by rw [e 32 (by decide)]) (by rw [e 33 (by decide)]) (by rw [e 34 (by decide)])⟩
theorem RCw.beg (h : RCw S s al f) (hb : bgn s < al) : RCw (cO S 111 (nI (bgn s + 1))) (wmb s) al f :=
  ⟨WR.beg h.1 hb, fun v hv => (h.2.1 v hv).keep (x_wmq (by decide)) hv (Nat.le_refl _) rfl rfl rfl (fun _ _ => rfl), fun k hk => (h.2.2 k hk).keep (x_wmq (by decide)) hk rfl rfl rfl rfl⟩
theorem RCw.g27 (h : RCw S s al f) {v : Nat} (hv : v < wnv s) : rget (kF S 27) (kK S 27) (nI v) = nI (vso s v) := by
  have := h.sz
  rw [h.1.1.1, rget_at hv (by omega)]
  exact (h.2.1 v hv).1
theorem RCw.g28 (h : RCw S s al f) {v : Nat} (hv : v < wnv s) (h1 : vso s v ≤ 1) : rget (kF S 28) (kK S 28) (nI v) = s.2.1 v := by
  have := h.sz
  rw [h.1.1.2.1, rget_at hv (by omega)]
  exact (h.2.1 v hv).2.1 h1
theorem RCw.g28n (h : RCw S s al f) {v : Nat} (hv : v < wnv s) (h1 : vso s v = 2 ∨ vso s v = 3) : rget (kF S 28) (kK S 28) (nI v) = nI (vno s v) := by
  have := h.sz
  rw [h.1.1.2.1, rget_at hv (by omega)]
  exact h1.elim (fun z => ((h.2.1 v hv).2.2.1 z).1) (fun z => ((h.2.1 v hv).2.2.2 z).1)
theorem RCw.g29 (h : RCw S s al f) {v : Nat} (hv : v < wnv s) (h1 : vso s v = 2) : rget (kF S 29) (kK S 29) (nI v) = sgt (vse s v) := by
  have := h.sz
  rw [h.1.1.2.2, rget_at hv (by omega)]
  exact ((h.2.1 v hv).2.2.1 h1).2
theorem RCw.g30 (h : RCw S s al f) {v i : Nat} (hv : v < wnv s) (h1 : vso s v = 3) (hi : i < (s.2.2 v).length) : ∃ b, rget (kF S 29) (kK S 29) (nI v) = nI b ∧ b + i < 2000 ∧ rget (kF S 30) (kK S 30) (nI (b + i)) = nI ((s.2.2 v).getD i 0) := by
  have := h.sz
  obtain ⟨-, b, b1, b2, b3⟩ := (h.2.1 v hv).2.2.2 h1
  refine ⟨b, ?_, by omega, ?_⟩
  · rw [h.1.1.2.2, rget_at hv (by omega)]
    exact b1
  · rw [h.1.2.1, rget_at (by omega) (by omega)]
    exact b3 i hi
theorem RCw.g31 (h : RCw S s al f) {k : Nat} (hk : k < ne s) : rget (kF S 31) (kK S 31) (nI k) = nI (ele s k) := by
  have := h.sz
  rw [h.1.2.2.1.1, rget_at hk (by omega)]
  exact (h.2.2 k hk).1
theorem RCw.g32 (h : RCw S s al f) {k : Nat} (hk : k < ne s) (h0 : ere s k = 0) : rget (kF S 32) (kK S 32) (nI k) = nI (eva s k) := by
  have := h.sz
  rw [h.1.2.2.1.2.1, rget_at hk (by omega)]
  exact (h.2.2 k hk).2.1 h0
theorem RCw.g33 (h : RCw S s al f) {k : Nat} (hk : k < ne s) : rget (kF S 33) (kK S 33) (nI k) = sgt (ere s k) := by
  have := h.sz
  rw [h.1.2.2.1.2.2.1, rget_at hk (by omega)]
  exact (h.2.2 k hk).2.2.1
theorem RCw.g34 (h : RCw S s al f) {k : Nat} (hk : k < ne s) : rget (kF S 34) (kK S 34) (nI k) = sgt (enx s k) := by
  have := h.sz
  rw [h.1.2.2.1.2.2.2, rget_at hk (by omega)]
  exact (h.2.2 k hk).2.2.2
def AV (S u : cS) (v : Nat) (x y z : Int32) : Prop := ((∀ j, j < v → kF u 27 j = kF S 27 j) ∧ kF u 27 v = x) ∧ ((∀ j, j < v → kF u 28 j = kF S 28 j) ∧ kF u 28 v = y) ∧ (∀ j, j < v → kF u 29 j = kF S 29 j) ∧ kF u 29 v = z
def AE (S u : cS) (v : Nat) (x y z w : Int32) : Prop := ((∀ j, j < v → kF u 31 j = kF S 31 j) ∧ kF u 31 v = x) ∧ ((∀ j, j < v → kF u 32 j = kF S 32 j) ∧ kF u 32 v = y) ∧ ((∀ j, j < v → kF u 33 j = kF S 33 j) ∧ kF u 33 v = z) ∧ (∀ j, j < v → kF u 34 j = kF S 34 j) ∧ kF u 34 v = w
theorem RCw.val {so n e : Nat} {x9 y z x : Int32} {fs : List Nat} (h : RCw S s al f) (a : AW [27, 28, 29] [] S u) (k : kK u 27 = wnv s + 1 ∧ kK u 28 = wnv s + 1 ∧ kK u 29 = wnv s + 1) (q : AV S u (wnv s) x9 y z) (hv : wnv s + 1 ≤ bgn s) (e1 : x9 = nI so) (e2 : so ≤ 1 → y = x) (e3 : so = 2 → y = nI n ∧ z = sgt e) (e4 : so = 3 → y = nI n ∧ ∃ b, z = nI b ∧ b + fs.length ≤ f ∧ ∀ i, i < fs.length → kF S 30 (b + i) = nI (fs.getD i 0)) : RCw u (wmv s so n e x fs).1 al f := by
  obtain ⟨k1, k2, k3, k4, k5⟩ := wmv_k (s := s) (so := so) (n := n) (e := e) (x := x) (fs := fs)
  have X := x_wmv (s := s) (so := so) (n := n) (e := e) (x := x) (fs := fs)
  have ek : ∀ r, r ∈ [30, 31, 32, 33, 34] → kF u r = kF S r := fun r hm => (a.2.1 r (by simp only [List.mem_cons, List.not_mem_nil, or_false] at hm; omega) (by
    rw [Nat.min_eq_left (by simp only [List.mem_cons, List.not_mem_nil, or_false] at hm; omega)]
    revert r
    decide)).1
  obtain ⟨⟨q1, q2⟩, ⟨q3, q4⟩, q5, q6⟩ := q
  refine ⟨?_, fun v hv9 => ?_, fun k hk => ?_⟩
  · rw [k1, k2, k3]
    exact WR.val h.1 a k hv
  · rw [k1] at hv9
    by_cases e9 : v = wnv s
    · subst e9
      obtain ⟨a1, a2, a3, a4, a5⟩ := wmv_n (s := s) (so := so) (n := n) (e := e) (x := x) (fs := fs)
      unfold VC
      rw [a1, a2, a3, a4, a5, q2, q4, q6, ek 30 (by decide)]
      exact ⟨e1, e2, e3, e4⟩
    · exact (h.2.1 v (by omega)).keep X (by omega) (Nat.le_refl _) (q1 v (by omega)) (q3 v (by omega)) (q5 v (by omega)) (fun j _ => by rw [ek 30 (by decide)])
  · rw [k2] at hk
    exact (h.2.2 k hk).keep X hk (by rw [ek 31 (by decide)]) (by rw [ek 32 (by decide)]) (by rw [ek 33 (by decide)]) (by rw [ek 34 (by decide)])
theorem RCw.env {le va re nx : Nat} {x y z w : Int32} (h : RCw S s al f) (a : AW [31, 32, 33, 34] [] S u) (k : kK u 31 = ne s + 1 ∧ kK u 32 = ne s + 1 ∧ kK u 33 = ne s + 1 ∧ kK u 34 = ne s + 1) (q : AE S u (ne s) x y z w) (hv : ne s + 1 ≤ bgn s) (e1 : x = nI le) (e2 : re = 0 → y = nI va) (e3 : z = sgt re) (e4 : w = sgt nx) : RCw u (wme s le va re nx) al f := by
  obtain ⟨k1, k2, k3, k4, k5, k6⟩ := wme_k (s := s) (le := le) (va := va) (re := re) (nx := nx)
  have X := x_wme (s := s) (le := le) (va := va) (re := re) (nx := nx)
  have ek : ∀ r, r ∈ [27, 28, 29, 30] → kF u r = kF S r := fun r hm => (a.2.1 r (by simp only [List.mem_cons, List.not_mem_nil, or_false] at hm; omega) (by
    rw [Nat.min_eq_left (by simp only [List.mem_cons, List.not_mem_nil, or_false] at hm; omega)]
    revert r
    decide)).1
  obtain ⟨⟨q1, q2⟩, ⟨q3, q4⟩, ⟨q5, q6⟩, q7, q8⟩ := q
  refine ⟨?_, fun v hv9 => ?_, fun k hk => ?_⟩
  · rw [k1, k2, k3]
    exact WR.sgt h.1 a k hv
  · rw [k2] at hv9
    exact (h.2.1 v hv9).keep X hv9 (Nat.le_refl _) (by rw [ek 27 (by decide)]) (by rw [ek 28 (by decide)]) (by rw [ek 29 (by decide)]) (fun j _ => by rw [ek 30 (by decide)])
  · rw [k1] at hk
    by_cases e9 : k = ne s
    · subst e9
      obtain ⟨a1, a2, a3, a4, a5⟩ := wme_n (s := s) (le := le) (va := va) (re := re) (nx := nx)
      unfold EC
      rw [a1, a2, a3, a4, q2, q4, q6, q8]
      exact ⟨e1, e2, e3, e4⟩
    · exact (h.2.2 k (by omega)).keep X (by omega) (q1 k (by omega)) (q3 k (by omega)) (q5 k (by omega)) (q7 k (by omega))
end RCs
/-- fields below f, and what old values are, stand; new records' fields lie from g on -/
def KP (S u : cS) (f g : Nat) (s a : wmS) : Prop := u.1 112 = S.1 112 ∧ (∀ j, j < f → kF u 30 j = kF S 30 j) ∧ (∀ v, v < wnv s → kF u 29 v = kF S 29 v) ∧ ∀ v, wnv s ≤ v → v < wnv a → vso a v = 3 → (∃ b, kF u 29 v = nI b ∧ g ≤ b ∧ b < 2000)
section KPs
variable {S S1 u : cS} {s a r : wmS} {f f1 g g1 : Nat}
theorem KP.rf : KP S S f g s s := ⟨rfl, fun _ _ => rfl, fun _ _ => rfl, fun v h1 h2 => absurd h2 (by omega)⟩
theorem KP.beg {x : Int32} : KP S (cO S 111 x) f g s (wmb s) := ⟨cO_n (by decide), fun _ _ => rfl, fun _ _ => rfl, fun v h1 h2 => absurd (show v < wnv s from h2) (by omega)⟩
theorem KP.trans (h : KP S S1 f g s a) (h' : KP S1 u f1 g1 a r) (hf : f ≤ f1) (hg : g ≤ g1) (x : Xt s a) (x' : Xt a r) : KP S u f g s r := by
  refine ⟨h'.1.trans h.1, fun j hj => (h'.2.1 j (by omega)).trans (h.2.1 j hj), fun v hv => (h'.2.2.1 v (Nat.lt_of_lt_of_le hv x.1)).trans (h.2.2.1 v hv), fun v h1 h2 h3 => ?_⟩
  by_cases hv : v < wnv a
  · obtain ⟨b, b1, b2, b3⟩ := h.2.2.2 v h1 hv ((x'.2.2.1 v hv).1.symm.trans h3)
    exact ⟨b, (h'.2.2.1 v hv).trans b1, b2, b3⟩
  · obtain ⟨b, b1, b2, b3⟩ := h'.2.2.2 v (by omega) h2 h3
    exact ⟨b, b1, by omega, b3⟩
theorem KP.mono (h : KP S u f g s a) (hf : f1 ≤ f) (hg : g1 ≤ g) : KP S u f1 g1 s a := by
  refine ⟨h.1, fun j hj => h.2.1 j (by omega), h.2.2.1, fun v h1 h2 h3 => ?_⟩
  obtain ⟨b, b1, b2, b3⟩ := h.2.2.2 v h1 h2 h3
  exact ⟨b, b1, by omega, b3⟩
theorem KP.env {le va re nx : Nat} (h : KP S S1 f g s a) (w : AW [31, 32, 33, 34] [] S1 u) : KP S u f g s (wme a le va re nx) := by
  have e29 : kF u 29 = kF S1 29 := (w.2.1 29 (lt35 (by decide)) (by decide)).1
  have e30 : kF u 30 = kF S1 30 := (w.2.1 30 (lt35 (by decide)) (by decide)).1
  obtain ⟨k1, k2, k3, k4, k5, k6⟩ := wme_k (s := a) (le := le) (va := va) (re := re) (nx := nx)
  unfold KP
  rw [e29, e30, k2]
  refine ⟨(w.1 112 (by decide)).trans h.1, h.2.1, h.2.2.1, fun v h1 h2 h3 => h.2.2.2 v h1 h2 ?_⟩
  exact (congrFun (k5 1 (by decide) (by decide)) v).symm.trans h3
theorem KP.val {so n e : Nat} {x9 y z x : Int32} {fs : List Nat} (h : KP S S1 f g s a) (w : AW [27, 28, 29] [] S1 u) (q : AV S1 u (wnv a) x9 y z) (X : Xt s a) (e3 : so = 3 → ∃ b, z = nI b ∧ g ≤ b ∧ b < 2000) : KP S u f g s (wmv a so n e x fs).1 := by
  have e30 : kF u 30 = kF S1 30 := (w.2.1 30 (lt35 (by decide)) (by decide)).1
  obtain ⟨-, -, q5, q6⟩ := q
  obtain ⟨k1, -⟩ := wmv_k (s := a) (so := so) (n := n) (e := e) (x := x) (fs := fs)
  refine ⟨(w.1 112 (by decide)).trans h.1, fun j hj => (congrFun e30 j).trans (h.2.1 j hj), fun v hv => (q5 v (Nat.lt_of_lt_of_le hv X.1)).trans (h.2.2.1 v hv), fun v h1 h2 h3 => ?_⟩
  rw [k1] at h2
  by_cases ev : v = wnv a
  · subst ev
    obtain ⟨b, b1, b2⟩ := e3 (wmv_n.1.symm.trans h3)
    exact ⟨b, q6.trans b1, b2⟩
  · obtain ⟨b, b1, b2⟩ := h.2.2.2 v h1 (by omega) ((wmv_o ev).1.symm.trans h3)
    exact ⟨b, (q5 v (by omega)).trans b1, b2⟩
end KPs
/-- what a run answers -/
def XQ (S u : cS) (al f c : Nat) (s : wmS) (r : wmS × Nat) (v : Int32) : Prop := (hlt r.1 = 0 → ∃ f', RCw u r.1 al f' ∧ f ≤ f' ∧ f' + 6 * bgn s ≤ f + 6 * bgn r.1 + 6 * c ∧ KP S u f f s r.1) ∧ u.1 111 = nI (bgn r.1) ∧ (hlt r.1 ≠ 0 → u.1 112 = nI (plc r.1)) ∧ v = ans r
section XQs
variable {S S1 u : cS} {s a : wmS} {al f f1 c : Nat} {v : Int32}
theorem XQ.stopv {x y : Nat} (hb : u.1 111 = nI (bgn a)) (hp : hlt a ≠ 0 → u.1 112 = nI (plc a)) (hv : v = ans (a, x)) (hz : hlt a ≠ 0) : XQ S u al f c s (a, y) v :=
  ⟨fun z => absurd z hz, hb, hp, hv.trans (ans_st hz)⟩
theorem XQ.haltv {n : Nat} (hb : u.1 111 = nI (bgn a)) (hp : u.1 112 = nI n) (hv : v = -3) : XQ S u al f c s (wmh a 1 n) v :=
  ⟨fun z => absurd z (show ¬ (1 : Nat) = 0 by decide), hb, fun _ => hp, hv⟩
theorem XQ.spentv {n : Nat} (hb : u.1 111 = nI (bgn a)) (hp : u.1 112 = nI n) (hv : v = -6) : XQ S u al f c s (wmh a 2 n) v :=
  ⟨fun z => absurd z (show ¬ (2 : Nat) = 0 by decide), hb, fun _ => hp, hv⟩
theorem XQ.valv {so n e : Nat} {x : Int32} {fs : List Nat} (h : RCw u (wmv a so n e x fs).1 al f1) (hz : hlt a = 0) (h1 : f ≤ f1) (h2 : f1 + 6 * bgn s ≤ f + 6 * bgn a + 6 * c) (h3 : KP S u f f s (wmv a so n e x fs).1) (hv : v = nI (wnv a)) : XQ S u al f c s (wmv a so n e x fs) v := by
  refine ⟨fun _ => ⟨f1, h, h1, h2, h3⟩, h.1.2.2.2.2.1, fun z => absurd hz z, hv.trans ?_⟩
  exact (ans_go (a := (wmv a so n e x fs).1) (x := wnv a) hz).symm
theorem XQ.was {x : Nat} (h : RCw u a al f1) (hz : hlt a = 0) (h1 : f ≤ f1) (h2 : f1 + 6 * bgn s ≤ f + 6 * bgn a + 6 * c) (h3 : KP S u f f s a) (hv : v = nI x) : XQ S u al f c s (a, x) v :=
  ⟨fun _ => ⟨f1, h, h1, h2, h3⟩, h.1.2.2.2.2.1, fun z => absurd hz z, hv.trans (ans_go hz).symm⟩
theorem XQ.tailv {r : wmS × Nat} (h : XQ S1 u al f1 0 a r v) (h1 : f ≤ f1) (h2 : f1 + 6 * bgn s ≤ f + 6 * bgn a + 6 * c) (h3 : KP S S1 f f s a) (x : Xt s a) (x' : Xt a r.1) : XQ S u al f c s r v := by
  obtain ⟨g1, g2, g3, g4⟩ := h
  refine ⟨fun z => ?_, g2, g3, g4⟩
  obtain ⟨f', k1, k2, k3, k4⟩ := g1 z
  exact ⟨f', k1, by omega, by omega, h3.trans k4 h1 h1 x x'⟩
/-- one run more begun: what the run itself answers -/
theorem XQ.run {r : wmS × Nat} (h : XQ S1 u al f 1 (wmb s) r v) (h3 : KP S S1 f f s (wmb s)) (x' : Xt (wmb s) r.1) : XQ S u al f 0 s r v := by
  obtain ⟨g1, g2, g3, g4⟩ := h
  refine ⟨fun z => ?_, g2, g3, g4⟩
  obtain ⟨f', k1, k2, k3, k4⟩ := g1 z
  have e : bgn (wmb s) = bgn s + 1 := rfl
  exact ⟨f', k1, k2, by omega, h3.trans k4 (Nat.le_refl _) (Nat.le_refl _) (x_wmq (by decide)) x'⟩
end XQs
section FLs
variable {S S1 S2 u : cS} {s s2 ws : wmS} {al f f2 f9 g c : Nat} {y : Int32}
theorem RCw.fld (h : RCw S s al f) (a : AW [30] [] S u) (k : kK u 30 = f + 1) (hf : f + 1 ≤ 6 * bgn s) (e : ∀ j, j < f → kF u 30 j = kF S 30 j) : RCw u s al (f + 1) := by
  have ek : ∀ r, r ∈ [27, 28, 29, 31, 32, 33, 34] → kF u r = kF S r := fun r hm => (a.2.1 r (by simp only [List.mem_cons, List.not_mem_nil, or_false] at hm; omega) (by
    rw [Nat.min_eq_left (by simp only [List.mem_cons, List.not_mem_nil, or_false] at hm; omega)]
    revert r
    decide)).1
  exact ⟨WR.fld h.1 a k hf, fun v hv => (h.2.1 v hv).keep Xt.rf hv (Nat.le_succ _) (by rw [ek 27 (by decide)]) (by rw [ek 28 (by decide)]) (by rw [ek 29 (by decide)]) e, fun k hk => (h.2.2 k hk).keep Xt.rf hk (by rw [ek 31 (by decide)]) (by rw [ek 32 (by decide)]) (by rw [ek 33 (by decide)]) (by rw [ek 34 (by decide)])⟩
theorem KP.fld {a : wmS} (h : KP S S1 f g s a) (w : AW [30] [] S1 u) (e : ∀ j, j < f → kF u 30 j = kF S1 30 j) : KP S u f g s a := by
  have e29 : kF u 29 = kF S1 29 := (w.2.1 29 (lt35 (by decide)) (by decide)).1
  refine ⟨(w.1 112 (by decide)).trans h.1, fun j hj => (e j hj).trans (h.2.1 j hj), ?_, ?_⟩
  · rw [e29]
    exact h.2.2.1
  · rw [e29]
    exact h.2.2.2
theorem set_30 {f2 : Nat} (hk : kK S2 30 = f2) (hf : f2 < 2000) (hc : c < f2) (e : u = uR S2 30 (kK S2 30) (kN S2 30) (kQ S2 30) (rset (kF S2 30) (kK S2 30) (nI c) y)) : AW [30] [] S2 u ∧ kK u 30 = f2 ∧ kF u 30 c = y ∧ ∀ j, j ≠ c → kF u 30 j = kF S2 30 j := by
  subst e
  refine ⟨AW.u (by decide), uR_K.trans hk, ?_, fun j hj => ?_⟩
  · rw [uR_F, rset_at (by omega) (by omega)]
    exact upd_s
  · rw [uR_F, rset_at (by omega) (by omega)]
    exact upd_n hj
theorem RCw.set (h : RCw S2 s2 al f2) (hR : RCw S ws al f9) (x : Xt ws s2) (kp : KP S S2 f9 g ws s2) (hc : f9 ≤ c) (hg : c < g) (a : AW [30] [] S2 u) (k : kK u 30 = f2) (e : ∀ j, j ≠ c → kF u 30 j = kF S2 30 j) : RCw u s2 al f2 := by
  have ek : ∀ r, r ∈ [27, 28, 29, 31, 32, 33, 34] → kF u r = kF S2 r := fun r hm => (a.2.1 r (by simp only [List.mem_cons, List.not_mem_nil, or_false] at hm; omega) (by
    rw [Nat.min_eq_left (by simp only [List.mem_cons, List.not_mem_nil, or_false] at hm; omega)]
    revert r
    decide)).1
  have sz := h.sz
  have sz9 := hR.sz
  refine ⟨WR.fld h.1 a k (by omega), fun v hv => ?_, fun k hk => (h.2.2 k hk).keep Xt.rf hk (by rw [ek 31 (by decide)]) (by rw [ek 32 (by decide)]) (by rw [ek 33 (by decide)]) (by rw [ek 34 (by decide)])⟩
  obtain ⟨h1, h2, h3, h4⟩ := h.2.1 v hv
  unfold VC
  rw [ek 27 (by decide), ek 28 (by decide), ek 29 (by decide)]
  refine ⟨h1, h2, h3, fun z => ?_⟩
  obtain ⟨b0, b, b1, b2, b3⟩ := h4 z
  refine ⟨b0, b, b1, b2, fun i hi => (e (b + i) ?_).trans (b3 i hi)⟩
  by_cases hv9 : v < wnv ws
  · obtain ⟨a1, a2, a3, a4, a5⟩ := x.2.2.1 v hv9
    obtain ⟨-, b', c1, c2, -⟩ := (hR.2.1 v hv9).2.2.2 (a1.symm.trans z)
    have q : nI b = nI b' := b1.symm.trans ((kp.2.2.1 v hv9).trans c1)
    have q2 := (nI_eq (by omega) (by omega)).mp q
    rw [a5] at hi
    omega
  · obtain ⟨b', c1, c2, c3⟩ := kp.2.2.2 v (by omega) hv z
    have q2 := (nI_eq (by omega) (by omega)).mp (b1.symm.trans c1)
    omega
end FLs
def rp (tr : aM) (n : Nat) : List Nat := (List.range (tr 2 n)).map (fun i => tr (10 + i) n)
/-- where a RECORD's run stands when i parts have run -/
def wmRI (tr : aM) (f : wmS → Nat → Nat → wmS × Nat) (s : wmS) (n e : Nat) (s2 : wmS) (vs : List Nat) (i : Nat) : Prop := wml (fun s n => f s n e) s (rp tr n) = ((wml (fun s n => f s n e) s2 ((rp tr n).drop i)).1, vs ++ (wml (fun s n => f s n e) s2 ((rp tr n).drop i)).2)
section RIs
variable {tr : aM} {f : wmS → Nat → Nat → wmS × Nat} {s s2 a : wmS} {n e i x : Nat} {vs : List Nat}
theorem wmRI.ze : wmRI tr f s n e s [] 0 := rfl
theorem rp_drop (hi : i < tr 2 n) : (rp tr n).drop i = tr (10 + i) n :: (rp tr n).drop (i + 1) := by
  have hl : i < (rp tr n).length := by
    unfold rp
    rw [List.length_map, List.length_range]
    exact hi
  have e1 : (rp tr n)[i]'hl = tr (10 + i) n := by
    simp only [rp, List.getElem_map, List.getElem_range]
  rw [List.drop_eq_getElem_cons hl, e1]
theorem wml_c {t : Nat} {r : List Nat} : wml (fun s n => f s n e) s2 (t :: r) = if hlt (f s2 t e).1 = 0 then ((wml (fun s n => f s n e) (f s2 t e).1 r).1, (f s2 t e).2 :: (wml (fun s n => f s n e) (f s2 t e).1 r).2) else ((f s2 t e).1, []) := rfl
theorem wmRI.st (h : wmRI tr f s n e s2 vs i) (hi : i < tr 2 n) (hx : f s2 (tr (10 + i) n) e = (a, x)) (hz : hlt a = 0) : wmRI tr f s n e a (vs ++ [x]) (i + 1) := by
  unfold wmRI at h ⊢
  rw [h, rp_drop hi, wml_c, hx, if_pos (show hlt (a, x).1 = 0 from hz), List.append_assoc]
  rfl
theorem wmRI.ha (h : wmRI tr f s n e s2 vs i) (hi : i < tr 2 n) (hx : f s2 (tr (10 + i) n) e = (a, x)) (hz : hlt a ≠ 0) : wmRecord tr f s n e = (a, 0) := by
  unfold wmRI at h
  rw [rp_drop hi] at h
  have e2 : wml (fun s n => f s n e) s2 (tr (10 + i) n :: (rp tr n).drop (i + 1)) = (a, []) := by
    rw [wml_c, hx, if_neg (show ¬ hlt (a, x).1 = 0 from hz)]
  rw [e2] at h
  show wmRec2 (wml (fun s n => f s n e) s (rp tr n)) n = _
  rw [h]
  exact if_neg hz
theorem wmRI.en (h : wmRI tr f s n e s2 vs i) (hi : i = tr 2 n) (hz : hlt s2 = 0) : wmRecord tr f s n e = wmv s2 3 n 0 0 vs := by
  unfold wmRI at h
  rw [List.drop_eq_nil_of_le (by unfold rp; rw [List.length_map, List.length_range]; omega)] at h
  show wmRec2 (wml (fun s n => f s n e) s (rp tr n)) n = _
  rw [h]
  refine (if_pos hz).trans ?_
  show wmv s2 3 n 0 0 (vs ++ []) = _
  rw [List.append_nil]
end RIs
theorem getD_lt {vs : List Nat} {x q : Nat} (h : q < vs.length) : (vs ++ [x]).getD q 0 = vs.getD q 0 := by
  rw [List.getD_eq_getElem?_getD, List.getD_eq_getElem?_getD, List.getElem?_append_left h]
theorem getD_at {vs : List Nat} {x q : Nat} (h : vs.length = q) : (vs ++ [x]).getD q 0 = x := by
  rw [List.getD_eq_getElem?_getD, List.getElem?_append_right (by omega), h, Nat.sub_self]
  rfl
/-! the machine's cases -/
section WC
variable {tr : aM} {mk : Nat → Int32} {f : wmS → Nat → Nat → wmS × Nat} {s a b : wmS} {n e x y : Nat}
theorem wmApply_1 (h : f s (tr 10 n) e = (a, x)) (hz : hlt a ≠ 0) : wmApply tr f s n e = (a, 0) := by
  unfold wmApply
  rw [h]
  exact if_neg hz
theorem wmApply_2 (h : f s (tr 10 n) e = (a, x)) (hz : hlt a = 0) (h2 : f a (tr 11 n) e = (b, y)) (hz2 : hlt b ≠ 0) : wmApply tr f s n e = (b, 0) := by
  unfold wmApply wmApply2
  rw [h]
  refine (if_pos hz).trans ?_
  show (if hlt (f a (tr 11 n) e).1 = 0 then _ else _) = _
  rw [h2]
  exact if_neg hz2
theorem wmApply_3 (h : f s (tr 10 n) e = (a, x)) (hz : hlt a = 0) (h2 : f a (tr 11 n) e = (b, y)) (hz2 : hlt b = 0) : wmApply tr f s n e = wmApply3 tr f b n x y := by
  unfold wmApply wmApply2
  rw [h]
  refine (if_pos hz).trans ?_
  show (if hlt (f a (tr 11 n) e).1 = 0 then _ else _) = _
  rw [h2]
  exact if_pos hz2
theorem wmField_1 (h : f s (tr 10 n) e = (a, x)) (hz : hlt a ≠ 0) : wmField tr f s n e = (a, 0) := by
  unfold wmField
  rw [h]
  exact if_neg hz
theorem wmField_2 (h : f s (tr 10 n) e = (a, x)) (hz : hlt a = 0) : wmField tr f s n e = wmField2 tr a n x := by
  unfold wmField
  rw [h]
  exact if_pos hz
theorem wmLet_1 (h : f s (tr 10 n) e = (a, x)) (hz : hlt a ≠ 0) : wmLet tr f s n e = (a, 0) := by
  unfold wmLet
  rw [h]
  exact if_neg hz
theorem wmLet_2 (h : f s (tr 10 n) e = (a, x)) (hz : hlt a = 0) : wmLet tr f s n e = f (wme a (tr 1 n) x 0 e) (tr 11 n) (ne a + 1) := by
  unfold wmLet
  rw [h]
  exact if_pos hz
theorem wmPick_1 (h : f s (tr 10 n) e = (a, x)) (hz : hlt a ≠ 0) : wmPick tr f s n e = (a, 0) := by
  unfold wmPick
  rw [h]
  exact if_neg hz
theorem wmPick_2 (h : f s (tr 10 n) e = (a, x)) (hz : hlt a = 0) : wmPick tr f s n e = wmPick2 tr f a n e x := by
  unfold wmPick
  rw [h]
  exact if_pos hz
theorem wmTwo_1 (h : f s (tr 10 n) e = (a, x)) (hz : hlt a ≠ 0) : wmTwo tr f s n e = (a, 0) := by
  unfold wmTwo
  rw [h]
  exact if_neg hz
theorem wmTwo_2 (h : f s (tr 10 n) e = (a, x)) (hz : hlt a = 0) (h2 : f a (tr 11 n) e = (b, y)) (hz2 : hlt b ≠ 0) : wmTwo tr f s n e = (b, 0) := by
  unfold wmTwo wmTwo2
  rw [h]
  refine (if_pos hz).trans ?_
  show (if hlt (f a (tr 11 n) e).1 = 0 then _ else _) = _
  rw [h2]
  exact if_neg hz2
theorem wmTwo_3 (h : f s (tr 10 n) e = (a, x)) (hz : hlt a = 0) (h2 : f a (tr 11 n) e = (b, y)) (hz2 : hlt b = 0) : wmTwo tr f s n e = wmTwo3 tr b n x y := by
  unfold wmTwo wmTwo2
  rw [h]
  refine (if_pos hz).trans ?_
  show (if hlt (f a (tr 11 n) e).1 = 0 then _ else _) = _
  rw [h2]
  exact if_pos hz2
theorem wmx_s {al k : Nat} (h : ¬ al ≤ bgn s) : wmx tr mk al (k + 1) s n e = wmd tr mk (wmx tr mk al k) (wmb s) n e := if_neg h
theorem wmd_0 (h : tr 0 n = 0) : wmd tr mk f s n e = wmv s 0 0 0 (mk n) [] := by unfold wmd; rw [h]; rfl
theorem wmd_1 (h : tr 0 n = 1) : wmd tr mk f s n e = wmv s 1 0 0 (mk n) [] := by unfold wmd; rw [h]; rfl
theorem wmd_2 (h : tr 0 n = 2) : wmd tr mk f s n e = wmName tr f s n e := by unfold wmd; rw [h]; rfl
theorem wmd_3 (h : tr 0 n = 3) : wmd tr mk f s n e = wmv s 2 n e 0 [] := by unfold wmd; rw [h]; rfl
theorem wmd_4 (h : tr 0 n = 4) : wmd tr mk f s n e = wmApply tr f s n e := by unfold wmd; rw [h]; rfl
theorem wmd_5 (h : tr 0 n = 5) : wmd tr mk f s n e = wmRecord tr f s n e := by unfold wmd; rw [h]; rfl
theorem wmd_6 (h : tr 0 n = 6) : wmd tr mk f s n e = wmField tr f s n e := by unfold wmd; rw [h]; rfl
theorem wmd_7 (h : tr 0 n = 7) : wmd tr mk f s n e = wmLet tr f s n e := by unfold wmd; rw [h]; rfl
theorem wmd_8 (h : tr 0 n = 8) : wmd tr mk f s n e = wmRecc tr f s n e := by unfold wmd; rw [h]; rfl
theorem wmd_9 (h : tr 0 n = 9) : wmd tr mk f s n e = wmPick tr f s n e := by unfold wmd; rw [h]; rfl
theorem wmd_10 (h : tr 0 n = 10 ∨ tr 0 n = 11) : wmd tr mk f s n e = wmTwo tr f s n e := by
  rcases h with h | h <;> (unfold wmd; rw [h]; rfl)
end WC
