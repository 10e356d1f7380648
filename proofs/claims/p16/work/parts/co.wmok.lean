/-! ===== the machine of WORKING: what holds of it ===== -/
section WR0
variable {s : wmS} {so n e : Nat} {x : Int32} {fs : List Nat} {le va re nx : Nat}
theorem wmv_o {v : Nat} (h : v ≠ wnv s) : vso (wmv s so n e x fs).1 v = vso s v ∧ vno (wmv s so n e x fs).1 v = vno s v ∧ vse (wmv s so n e x fs).1 v = vse s v ∧ (wmv s so n e x fs).1.2.1 v = s.2.1 v ∧ (wmv s so n e x fs).1.2.2 v = s.2.2 v :=
  ⟨if_neg h, if_neg h, if_neg h, if_neg h, if_neg h⟩
theorem wmv_n : vso (wmv s so n e x fs).1 (wnv s) = so ∧ vno (wmv s so n e x fs).1 (wnv s) = n ∧ vse (wmv s so n e x fs).1 (wnv s) = e ∧ (wmv s so n e x fs).1.2.1 (wnv s) = x ∧ (wmv s so n e x fs).1.2.2 (wnv s) = fs :=
  ⟨if_pos rfl, if_pos rfl, if_pos rfl, if_pos rfl, if_pos rfl⟩
theorem wmv_k : wnv (wmv s so n e x fs).1 = wnv s + 1 ∧ ne (wmv s so n e x fs).1 = ne s ∧ bgn (wmv s so n e x fs).1 = bgn s ∧ hlt (wmv s so n e x fs).1 = hlt s ∧ (∀ g, 5 ≤ g → (wmv s so n e x fs).1.1 g = s.1 g) := by
  refine ⟨rfl, rfl, rfl, rfl, fun g hg => ?_⟩
  funext j
  show mst (mst (mst (mst s.1 1 (wnv s) so) 2 (wnv s) n) 3 (wnv s) e) 0 0 (wnv s + 1) g j = s.1 g j
  unfold mst
  rw [if_neg (by omega), if_neg (by omega), if_neg (by omega), if_neg (by omega)]
theorem wme_o {k : Nat} (h : k ≠ ne s) : ele (wme s le va re nx) k = ele s k ∧ eva (wme s le va re nx) k = eva s k ∧ ere (wme s le va re nx) k = ere s k ∧ enx (wme s le va re nx) k = enx s k ∧ (wme s le va re nx).1 9 k = s.1 9 k :=
  ⟨if_neg h, if_neg h, if_neg h, if_neg h, if_neg h⟩
theorem wme_n : ele (wme s le va re nx) (ne s) = le ∧ eva (wme s le va re nx) (ne s) = va ∧ ere (wme s le va re nx) (ne s) = re ∧ enx (wme s le va re nx) (ne s) = nx ∧ (wme s le va re nx).1 9 (ne s) = eln s nx + 1 :=
  ⟨if_pos rfl, if_pos rfl, if_pos rfl, if_pos rfl, if_pos rfl⟩
theorem wme_k : ne (wme s le va re nx) = ne s + 1 ∧ wnv (wme s le va re nx) = wnv s ∧ bgn (wme s le va re nx) = bgn s ∧ hlt (wme s le va re nx) = hlt s ∧ (∀ g, 1 ≤ g → g < 5 → (wme s le va re nx).1 g = s.1 g) ∧ (wme s le va re nx).2 = s.2 := by
  refine ⟨rfl, rfl, rfl, rfl, fun g h1 hg => ?_, rfl⟩
  funext j
  show mst (mst (mst (mst (mst (mst s.1 5 (ne s) le) 6 (ne s) va) 7 (ne s) re) 8 (ne s) nx) 9 (ne s) (eln s nx + 1)) 0 1 (ne s + 1) g j = s.1 g j
  unfold mst
  rw [if_neg (by omega), if_neg (by omega), if_neg (by omega), if_neg (by omega), if_neg (by omega), if_neg (by omega)]
end WR0
def VWf (tr : aM) (N : Nat) (dp : Nat → Nat) (s : wmS) (v : Nat) : Prop := vso s v ≤ 3 ∧ (vso s v = 2 → vno s v < N ∧ tr 0 (vno s v) = 3 ∧ vse s v ≤ ne s ∧ eln s (vse s v) ≤ dp (vno s v)) ∧ (vso s v = 3 → vno s v < N ∧ tr 0 (vno s v) = 5 ∧ (s.2.2 v).length = tr 2 (vno s v) ∧ ∀ x ∈ s.2.2 v, x < wnv s)
def EWf (tr : aM) (N : Nat) (dp : Nat → Nat) (s : wmS) (k : Nat) : Prop := enx s k ≤ k ∧ s.1 9 k = eln s (enx s k) + 1 ∧ (ere s k = 0 → eva s k < wnv s) ∧ (ere s k ≠ 0 → ere s k - 1 < N ∧ tr 0 (ere s k - 1) = 8 ∧ s.1 9 k ≤ dp (ere s k - 1) + 1) ∧ ele s k < 26
def wmW (tr : aM) (N : Nat) (dp : Nat → Nat) (s : wmS) : Prop := (∀ v, v < wnv s → VWf tr N dp s v) ∧ ∀ k, k < ne s → EWf tr N dp s k
def Xt (s s' : wmS) : Prop := wnv s ≤ wnv s' ∧ ne s ≤ ne s' ∧ (∀ v, v < wnv s → vso s' v = vso s v ∧ vno s' v = vno s v ∧ vse s' v = vse s v ∧ s'.2.1 v = s.2.1 v ∧ s'.2.2 v = s.2.2 v) ∧ ∀ k, k < ne s → ele s' k = ele s k ∧ eva s' k = eva s k ∧ ere s' k = ere s k ∧ enx s' k = enx s k ∧ s'.1 9 k = s.1 9 k
theorem Xt.rf {s : wmS} : Xt s s := ⟨Nat.le_refl _, Nat.le_refl _, fun _ _ => ⟨rfl, rfl, rfl, rfl, rfl⟩, fun _ _ => ⟨rfl, rfl, rfl, rfl, rfl⟩⟩
theorem Xt.tr {a b c : wmS} (h : Xt a b) (h' : Xt b c) : Xt a c := by
  obtain ⟨h1, h2, h3, h4⟩ := h
  obtain ⟨g1, g2, g3, g4⟩ := h'
  refine ⟨by omega, by omega, fun v hv => ?_, fun k hk => ?_⟩
  · obtain ⟨a1, a2, a3, a4, a5⟩ := h3 v hv
    obtain ⟨b1, b2, b3, b4, b5⟩ := g3 v (by omega)
    exact ⟨b1.trans a1, b2.trans a2, b3.trans a3, b4.trans a4, b5.trans a5⟩
  · obtain ⟨a1, a2, a3, a4, a5⟩ := h4 k hk
    obtain ⟨b1, b2, b3, b4, b5⟩ := g4 k (by omega)
    exact ⟨b1.trans a1, b2.trans a2, b3.trans a3, b4.trans a4, b5.trans a5⟩
theorem Xt.eln {a b : wmS} (h : Xt a b) {e : Nat} (he : e ≤ ne a) : eln b e = eln a e := by
  show (if e = 0 then 0 else b.1 9 (e - 1)) = if e = 0 then 0 else a.1 9 (e - 1)
  by_cases h0 : e = 0
  · rw [if_pos h0, if_pos h0]
  · rw [if_neg h0, if_neg h0]
    exact (h.2.2.2 (e - 1) (by omega)).2.2.2.2
section WP0
variable {tr : aM} {N : Nat} {dp : Nat → Nat} {s : wmS}
theorem VWf.keep {a b : wmS} {v : Nat} (h : VWf tr N dp a v) (x : Xt a b) (hv : v < wnv a) : VWf tr N dp b v := by
  obtain ⟨h1, h2, h3⟩ := h
  obtain ⟨a1, a2, a3, a4, a5⟩ := x.2.2.1 v hv
  unfold VWf
  rw [a1, a2, a3, a5]
  refine ⟨h1, fun z => ?_, fun z => ?_⟩
  · obtain ⟨b1, b2, b3, b4⟩ := h2 z
    refine ⟨b1, b2, Nat.le_trans b3 x.2.1, ?_⟩
    rw [x.eln b3]
    exact b4
  · obtain ⟨b1, b2, b3, b4⟩ := h3 z
    exact ⟨b1, b2, b3, fun w hw => Nat.lt_of_lt_of_le (b4 w hw) x.1⟩
theorem EWf.keep {a b : wmS} {k : Nat} (h : EWf tr N dp a k) (x : Xt a b) (hk : k < ne a) : EWf tr N dp b k := by
  obtain ⟨h1, h2, h3, h4, h5⟩ := h
  obtain ⟨a1, a2, a3, a4, a5⟩ := x.2.2.2 k hk
  unfold EWf
  rw [a1, a2, a3, a4, a5]
  refine ⟨h1, ?_, fun z => Nat.lt_of_lt_of_le (h3 z) x.1, h4, h5⟩
  rw [x.eln (by omega)]
  exact h2
theorem x_wmv {so n e : Nat} {x : Int32} {fs : List Nat} : Xt s (wmv s so n e x fs).1 := by
  obtain ⟨k1, k2, k3, k4, k5⟩ := wmv_k (s := s) (so := so) (n := n) (e := e) (x := x) (fs := fs)
  refine ⟨by rw [k1]; omega, by rw [k2]; exact Nat.le_refl _, fun v hv => wmv_o (by omega), fun k hk => ?_⟩
  exact ⟨congrFun (k5 5 (by decide)) k, congrFun (k5 6 (by decide)) k, congrFun (k5 7 (by decide)) k, congrFun (k5 8 (by decide)) k, congrFun (k5 9 (by decide)) k⟩
theorem x_wme {le va re nx : Nat} : Xt s (wme s le va re nx) := by
  obtain ⟨k1, k2, k3, k4, k5, k6⟩ := wme_k (s := s) (le := le) (va := va) (re := re) (nx := nx)
  refine ⟨by rw [k2]; exact Nat.le_refl _, by rw [k1]; omega, fun v hv => ?_, fun k hk => wme_o (by omega)⟩
  exact ⟨congrFun (k5 1 (by decide) (by decide)) v, congrFun (k5 2 (by decide) (by decide)) v, congrFun (k5 3 (by decide) (by decide)) v, by rw [k6], by rw [k6]⟩
theorem x_wmq {i v : Nat} (hi : 2 ≤ i) : Xt s (wmq s 0 i v) := by
  have e : ∀ g, 1 ≤ g → (wmq s 0 i v).1 g = s.1 g := fun g hg => by
    funext j
    show mst s.1 0 i v g j = s.1 g j
    unfold mst
    rw [if_neg (by omega)]
  have e0 : ∀ j, j < 2 → (wmq s 0 i v).1 0 j = s.1 0 j := fun j hj => by
    show mst s.1 0 i v 0 j = s.1 0 j
    unfold mst
    rw [if_pos rfl, if_neg (by omega)]
  exact ⟨Nat.le_of_eq (e0 0 (by decide)).symm, Nat.le_of_eq (e0 1 (by decide)).symm, fun w _ => ⟨congrFun (e 1 (by decide)) w, congrFun (e 2 (by decide)) w, congrFun (e 3 (by decide)) w, rfl, rfl⟩, fun k _ => ⟨congrFun (e 5 (by decide)) k, congrFun (e 6 (by decide)) k, congrFun (e 7 (by decide)) k, congrFun (e 8 (by decide)) k, congrFun (e 9 (by decide)) k⟩⟩
theorem w_wmq {i v : Nat} (h : wmW tr N dp s) (hi : 2 ≤ i) : wmW tr N dp (wmq s 0 i v) := by
  have e0 : ∀ j, j < 2 → (wmq s 0 i v).1 0 j = s.1 0 j := fun j hj => by
    show mst s.1 0 i v 0 j = s.1 0 j
    unfold mst
    rw [if_pos rfl, if_neg (by omega)]
  refine ⟨fun w hw => (h.1 w ?_).keep (x_wmq hi) ?_, fun k hk => (h.2 k ?_).keep (x_wmq hi) ?_⟩
  · exact Nat.lt_of_lt_of_eq hw (e0 0 (by decide))
  · exact Nat.lt_of_lt_of_eq hw (e0 0 (by decide))
  · exact Nat.lt_of_lt_of_eq hk (e0 1 (by decide))
  · exact Nat.lt_of_lt_of_eq hk (e0 1 (by decide))
theorem w_wmv {so n e : Nat} {x : Int32} {fs : List Nat} (h : wmW tr N dp s) (h3 : so ≤ 3) (h2 : so = 2 → n < N ∧ tr 0 n = 3 ∧ e ≤ ne s ∧ eln s e ≤ dp n) (h4 : so = 3 → n < N ∧ tr 0 n = 5 ∧ fs.length = tr 2 n ∧ ∀ y ∈ fs, y < wnv s) : wmW tr N dp (wmv s so n e x fs).1 := by
  obtain ⟨k1, k2, k3, k4, k5⟩ := wmv_k (s := s) (so := so) (n := n) (e := e) (x := x) (fs := fs)
  have X := x_wmv (s := s) (so := so) (n := n) (e := e) (x := x) (fs := fs)
  refine ⟨fun v hv => ?_, fun k hk => (h.2 k (k2 ▸ hk)).keep X (k2 ▸ hk)⟩
  rw [k1] at hv
  by_cases e9 : v = wnv s
  · subst e9
    obtain ⟨a1, a2, a3, a4, a5⟩ := wmv_n (s := s) (so := so) (n := n) (e := e) (x := x) (fs := fs)
    unfold VWf
    rw [a1, a2, a3, a5, k1, k2]
    refine ⟨h3, fun z => ?_, fun z => ?_⟩
    · obtain ⟨b1, b2, b3, b4⟩ := h2 z
      refine ⟨b1, b2, b3, ?_⟩
      rw [X.eln b3]
      exact b4
    · obtain ⟨b1, b2, b3, b4⟩ := h4 z
      exact ⟨b1, b2, b3, fun y hy => Nat.lt_succ_of_lt (b4 y hy)⟩
  · exact (h.1 v (by omega)).keep X (by omega)
theorem w_wme {le va re nx : Nat} (h : wmW tr N dp s) (h26 : le < 26) (hn : nx ≤ ne s) (h0 : re = 0 → va < wnv s) (h1 : re ≠ 0 → re - 1 < N ∧ tr 0 (re - 1) = 8 ∧ eln s nx ≤ dp (re - 1)) : wmW tr N dp (wme s le va re nx) := by
  obtain ⟨k1, k2, k3, k4, k5, k6⟩ := wme_k (s := s) (le := le) (va := va) (re := re) (nx := nx)
  have X := x_wme (s := s) (le := le) (va := va) (re := re) (nx := nx)
  refine ⟨fun v hv => (h.1 v (k2 ▸ hv)).keep X (k2 ▸ hv), fun k hk => ?_⟩
  rw [k1] at hk
  by_cases e9 : k = ne s
  · subst e9
    obtain ⟨a1, a2, a3, a4, a5⟩ := wme_n (s := s) (le := le) (va := va) (re := re) (nx := nx)
    unfold EWf
    rw [a1, a2, a3, a4, a5, k2, X.eln hn]
    refine ⟨hn, rfl, h0, fun z => ?_, h26⟩
    obtain ⟨b1, b2, b3⟩ := h1 z
    exact ⟨b1, b2, by omega⟩
  · exact (h.2 k (by omega)).keep X (by omega)
theorem eln_new {le va re nx : Nat} : eln (wme s le va re nx) (ne s + 1) = eln s nx + 1 := by
  show (if ne s + 1 = 0 then 0 else (wme s le va re nx).1 9 (ne s + 1 - 1)) = _
  rw [if_neg (by omega), Nat.add_sub_cancel]
  exact wme_n.2.2.2.2
def wmC (al : Nat) (s s' : wmS) (c : Nat) : Prop := bgn s ≤ bgn s' ∧ bgn s' ≤ al ∧ wnv s' + bgn s ≤ wnv s + bgn s' + c ∧ ne s' + bgn s ≤ ne s + bgn s' + c
def wmP (tr : aM) (N : Nat) (dp : Nat → Nat) (al : Nat) (s : wmS) (c : Nat) (r : wmS × Nat) : Prop := wmW tr N dp r.1 ∧ Xt s r.1 ∧ wmC al s r.1 c ∧ (hlt r.1 = 0 → r.2 < wnv r.1)
theorem wmP.halt {al c y n : Nat} (h : wmW tr N dp s) (hb : bgn s ≤ al) (hy : y ≠ 0) : wmP tr N dp al s c (wmh s y n) := by
  refine ⟨w_wmq (w_wmq h (by decide)) (by decide), (x_wmq (by decide)).tr (x_wmq (by decide)), ?_, fun z => absurd z hy⟩
  show bgn s ≤ bgn s ∧ bgn s ≤ al ∧ wnv s + bgn s ≤ wnv s + bgn s + c ∧ ne s + bgn s ≤ ne s + bgn s + c
  omega
theorem wmC.trans {al c c' : Nat} {s1 s2 : wmS} (h : wmC al s s1 c) (h' : wmC al s1 s2 c') : wmC al s s2 (c + c') := by
  unfold wmC at h h' ⊢
  omega
theorem wmC.mono {al c c' : Nat} {s1 : wmS} (h : wmC al s s1 c) (hc : c ≤ c') : wmC al s s1 c' := by
  unfold wmC at h ⊢
  omega
theorem wmP.trans {al c c' : Nat} {s1 : wmS} {r : wmS × Nat} (x : Xt s s1) (hc : wmC al s s1 c) (h : wmP tr N dp al s1 c' r) : wmP tr N dp al s (c + c') r := by
  obtain ⟨h1, h2, h3, h4⟩ := h
  refine ⟨h1, x.tr h2, ?_, h4⟩
  unfold wmC at hc h3 ⊢
  omega
theorem wmP.mono {al c c' : Nat} {r : wmS × Nat} (h : wmP tr N dp al s c r) (hc : c ≤ c') : wmP tr N dp al s c' r := by
  obtain ⟨h1, h2, h3, h4⟩ := h
  refine ⟨h1, h2, ?_, h4⟩
  unfold wmC at h3 ⊢
  omega
theorem wmP.val {al so n e : Nat} {x : Int32} {fs : List Nat} (h : wmW tr N dp s) (hb : bgn s ≤ al) (h3 : so ≤ 3) (h2 : so = 2 → n < N ∧ tr 0 n = 3 ∧ e ≤ ne s ∧ eln s e ≤ dp n) (h4 : so = 3 → n < N ∧ tr 0 n = 5 ∧ fs.length = tr 2 n ∧ ∀ y ∈ fs, y < wnv s) : wmP tr N dp al s 1 (wmv s so n e x fs) := by
  obtain ⟨k1, k2, k3, k4, -⟩ := wmv_k (s := s) (so := so) (n := n) (e := e) (x := x) (fs := fs)
  refine ⟨w_wmv h h3 h2 h4, x_wmv, ?_, fun _ => by rw [k1]; exact Nat.lt_succ_self _⟩
  unfold wmC
  rw [k1, k2, k3]
  omega
theorem wmP.was {al v : Nat} (h : wmW tr N dp s) (hb : bgn s ≤ al) (hv : v < wnv s) : wmP tr N dp al s 0 (s, v) :=
  ⟨h, Xt.rf, ⟨Nat.le_refl _, hb, Nat.le_refl _, Nat.le_refl _⟩, fun _ => hv⟩
theorem wmC.env {al le va re nx : Nat} (hb : bgn s ≤ al) : wmC al s (wme s le va re nx) 1 := by
  obtain ⟨k1, k2, k3, k4, -⟩ := wme_k (s := s) (le := le) (va := va) (re := re) (nx := nx)
  unfold wmC
  rw [k1, k2, k3]
  omega
end WP0
