/-! ===== the second program's WORKING is the machine ===== -/
def phu (φ : Nat → Nat) (v x : Nat) : Nat → Nat := fun w => if w = v then x else φ w
theorem phu_s {φ : Nat → Nat} {v x : Nat} : phu φ v x v = x := if_pos rfl
theorem phu_n {φ : Nat → Nat} {v x w : Nat} (h : w ≠ v) : phu φ v x w = φ w := if_neg h
def MV (tr : aM) (F : Nat → Nat → Int32) (s : wmS) (φ : Nat → Nat) (v : Nat) : Prop := F 52 (φ v) = nI (vso s v) ∧ (vso s v ≤ 1 → F 53 (φ v) = s.2.1 v) ∧ (vso s v = 2 → F 53 (φ v) = nI (vno s v) ∧ F 54 (φ v) = sgt (vse s v)) ∧ (vso s v = 3 → F 53 (φ v) = nI (vno s v) ∧ F 54 (φ v) = nI (tr 2 (vno s v)) ∧ ∀ i, i < (s.2.2 v).length → F 55 (6 * φ v + i) = nI (φ ((s.2.2 v).getD i 0)))
def ME (F : Nat → Nat → Int32) (s : wmS) (φ : Nat → Nat) (k : Nat) : Prop := F 57 k = nI (ele s k) ∧ (ere s k = 0 → F 58 k = nI (φ (eva s k))) ∧ F 59 k = sgt (ere s k) ∧ F 60 k = sgt (enx s k)
def MR9 (tr : aM) (al vs : Nat) (o : Nat → Int32) (F : Nat → Nat → Int32) (s : wmS) (φ : Nat → Nat) : Prop := (o 51 = nI vs ∧ o 56 = nI (ne s) ∧ o 62 = nI (bgn s) ∧ o 63 = nI al) ∧ (∀ v, v < wnv s → φ v < vs ∧ MV tr F s φ v) ∧ ∀ k, k < ne s → ME F s φ k
def PH (s a : wmS) (φ φ1 : Nat → Nat) (vs : Nat) : Prop := (∀ v, v < wnv s → φ1 v = φ v) ∧ ∀ v, wnv s ≤ v → v < wnv a → vs ≤ φ1 v
def YK (tr : aM) (al vs c : Nat) (φ : Nat → Nat) (o : Nat → Int32) (F : Nat → Nat → Int32) (s a : wmS) (vs1 : Nat) (φ1 : Nat → Nat) (u : mS) : Prop := MR9 tr al vs1 u.1 u.2 a φ1 ∧ (vs ≤ vs1 ∧ vs1 + bgn s ≤ vs + bgn a + c) ∧ PH s a φ φ1 vs ∧ (u.1 61 = o 61 ∧ u.1 64 = o 64 ∧ u.1 65 = o 65 ∧ u.1 67 = o 67) ∧ Kq LW o F u ∧ FV vs F u.2
def YH (o : Nat → Int32) (F : Nat → Nat → Int32) (a : wmS) (u : mS) : Prop := hlt a ≠ 0 ∧ u.1 67 = 0 ∧ u.1 61 = nI (hlt a) ∧ u.1 65 = nI (plc a) ∧ u.1 62 = nI (bgn a) ∧ u.1 64 = o 64 ∧ Kq LW o F u
def YQ (tr : aM) (al vs c : Nat) (φ : Nat → Nat) (o : Nat → Int32) (F : Nat → Nat → Int32) (s : wmS) (r : wmS × Nat) (rv : Int32) (u : mS) : Prop := YH o F r.1 u ∨ (hlt r.1 = 0 ∧ ∃ vs1 φ1, YK tr al vs c φ o F s r.1 vs1 φ1 u ∧ rv = nI (φ1 r.2))
section MVs
variable {tr : aM} {N : Nat} {dp : Nat → Nat} {F F1 : Nat → Nat → Int32} {s a : wmS} {φ φ1 : Nat → Nat} {v k : Nat}
theorem gD_mem {fs : List Nat} {i : Nat} (h : i < fs.length) : fs.getD i 0 ∈ fs := by
  rw [gtD h]
  exact List.getElem_mem _
theorem MV.keep (h : MV tr F s φ v) (hW : VWf tr N dp s v) (h6 : ∀ m, m < N → tr 2 m ≤ 6) (x : Xt s a) (hv : v < wnv s) (hp : ∀ w, w < wnv s → φ1 w = φ w) (e52 : F1 52 (φ v) = F 52 (φ v)) (e53 : F1 53 (φ v) = F 53 (φ v)) (e54 : F1 54 (φ v) = F 54 (φ v)) (e55 : ∀ i, i < 6 → F1 55 (6 * φ v + i) = F 55 (6 * φ v + i)) : MV tr F1 a φ1 v := by
  obtain ⟨h1, h2, h3, h4⟩ := h
  obtain ⟨a1, a2, a3, a4, a5⟩ := x.2.2.1 v hv
  unfold MV
  rw [hp v hv, a1, a2, a3, a4, a5, e52, e53, e54]
  refine ⟨h1, h2, h3, fun z => ?_⟩
  obtain ⟨b1, b2, b3⟩ := h4 z
  obtain ⟨c1, -, c2, c3⟩ := hW.2.2 z
  refine ⟨b1, b2, fun i hi => ?_⟩
  have := h6 _ c1
  rw [e55 i (by omega), b3 i hi, hp _ (c3 _ (gD_mem hi))]
theorem ME.keep (h : ME F s φ k) (hW : EWf tr N dp s k) (x : Xt s a) (hk : k < ne s) (hp : ∀ w, w < wnv s → φ1 w = φ w) (e57 : F1 57 k = F 57 k) (e58 : F1 58 k = F 58 k) (e59 : F1 59 k = F 59 k) (e60 : F1 60 k = F 60 k) : ME F1 a φ1 k := by
  obtain ⟨h1, h2, h3, h4⟩ := h
  obtain ⟨a1, a2, a3, a4, a5⟩ := x.2.2.2 k hk
  unfold ME
  rw [a1, a2, a3, a4, e57, e58, e59, e60]
  exact ⟨h1, fun z => by rw [h2 z, hp _ (hW.2.2.1 z)], h3, h4⟩
theorem PH.rf {vs : Nat} : PH s s φ φ vs := ⟨fun _ _ => rfl, fun v h1 h2 => absurd h2 (by omega)⟩
theorem PH.trans {b : wmS} {φ2 : Nat → Nat} {vs vs1 : Nat} (h : PH s a φ φ1 vs) (h' : PH a b φ1 φ2 vs1) (hv : vs ≤ vs1) (hn : wnv s ≤ wnv a) : PH s b φ φ2 vs := by
  refine ⟨fun v h1 => (h'.1 v (by omega)).trans (h.1 v h1), fun v h1 h2 => ?_⟩
  by_cases hz : v < wnv a
  · rw [h'.1 v hz]
    exact h.2 v h1 hz
  · have := h'.2 v (by omega) h2
    omega
end MVs
section YKs
variable {tr : aM} {N al vs c vs1 : Nat} {dp : Nat → Nat} {o o1 : Nat → Int32} {F F1 : Nat → Nat → Int32} {s a b : wmS} {φ φ1 φ2 : Nat → Nat} {u : mS} {x y w9 nx9 : Int32}
theorem YK.rf (h : MR9 tr al vs o F s φ) : YK tr al vs 0 φ o F s s vs φ (o, F) :=
  ⟨h, ⟨Nat.le_refl _, Nat.le_refl _⟩, PH.rf, ⟨rfl, rfl, rfl, rfl⟩, Kq.rf, fun _ _ => ⟨rfl, rfl, rfl, fun _ _ => rfl⟩⟩
theorem FV_tr {F2 : Nat → Nat → Int32} (h : FV vs F F1) (h' : FV vs1 F1 F2) (hv : vs ≤ vs1) : FV vs F F2 := fun v hv9 => by
  obtain ⟨c1, c2, c3, c4⟩ := h v hv9
  obtain ⟨e1, e2, e3, e4⟩ := h' v (by omega)
  exact ⟨e1.trans c1, e2.trans c2, e3.trans c3, fun k hk => (e4 k hk).trans (c4 k hk)⟩
theorem YK.trans {vs2 c2 : Nat} (h : YK tr al vs c φ o F s a vs1 φ1 (o1, F1)) (h' : YK tr al vs1 c2 φ1 o1 F1 a b vs2 φ2 u) (hn : wnv s ≤ wnv a) : YK tr al vs (c + c2) φ o F s b vs2 φ2 u := by
  obtain ⟨a1, a2, a3, ⟨a4, a5, a6, a7⟩, a8, a9⟩ := h
  obtain ⟨b1, b2, b3, ⟨b4, b5, b6, b7⟩, b8, b9⟩ := h'
  exact ⟨b1, ⟨by omega, by omega⟩, a3.trans b3 a2.1 hn, ⟨b4.trans a4, b5.trans a5, b6.trans a6, b7.trans a7⟩, a8.tr b8, FV_tr a9 b9 a2.1⟩
theorem YK.mono {c2 : Nat} (h : YK tr al vs c φ o F s a vs1 φ1 u) (hc : c ≤ c2) : YK tr al vs c2 φ o F s a vs1 φ1 u :=
  ⟨h.1, ⟨h.2.1.1, by have := h.2.1.2; omega⟩, h.2.2⟩
theorem f3_o {F : Nat → Nat → Int32} {v w : Nat} (h : w ≠ v) : fput (fput (fput F 52 v x) 53 v y) 54 v w9 52 w = F 52 w ∧ fput (fput (fput F 52 v x) 53 v y) 54 v w9 53 w = F 53 w ∧ fput (fput (fput F 52 v x) 53 v y) 54 v w9 54 w = F 54 w := by
  refine ⟨?_, ?_, ?_⟩
  · rw [fput_k (by decide), fput_k (by decide), fput_j h]
  · rw [fput_k (by decide), fput_j h, fput_k (by decide)]
  · rw [fput_j h, fput_k (by decide), fput_k (by decide)]
theorem f3_k {F : Nat → Nat → Int32} {v j : Nat} (k : Nat) (h1 : k ≠ 52) (h2 : k ≠ 53) (h3 : k ≠ 54) : fput (fput (fput F 52 v x) 53 v y) 54 v w9 k j = F k j := by
  rw [fput_k h3, fput_k h2, fput_k h1]
theorem f3_s {F : Nat → Nat → Int32} {v : Nat} : fput (fput (fput F 52 v x) 53 v y) 54 v w9 52 v = x ∧ fput (fput (fput F 52 v x) 53 v y) 54 v w9 53 v = y ∧ fput (fput (fput F 52 v x) 53 v y) 54 v w9 54 v = w9 :=
  ⟨by rw [fput_k (by decide), fput_k (by decide), fput_s], by rw [fput_k (by decide), fput_s], fput_s⟩
/-- a value made that the machine has not yet -/
theorem YK.hole (h : YK tr al vs c φ o F s a vs1 φ1 (o1, F1)) (hW : wmW tr N dp a) (h6 : ∀ m, m < N → tr 2 m ≤ 6) (hu : u = (upd o1 51 (nI (vs1 + 1)), fput (fput (fput F1 52 vs1 x) 53 vs1 y) 54 vs1 w9)) : YK tr al vs (c + 1) φ o F s a (vs1 + 1) φ1 u := by
  obtain ⟨⟨⟨m1, m2, m3, m4⟩, m5, m6⟩, a2, a3, a4, a8, a9⟩ := h
  subst hu
  have fk : ∀ k, k ≠ 52 → k ≠ 53 → k ≠ 54 → ∀ j, fput (fput (fput F1 52 vs1 x) 53 vs1 y) 54 vs1 w9 k j = F1 k j := fun k h1 h2 h3 j => f3_k k h1 h2 h3
  refine ⟨⟨⟨rfl, m2, m3, m4⟩, fun v hv => ?_, fun k hk => ?_⟩, ⟨by omega, by omega⟩, a3, a4, ((((a8.o (by decide)).F (by decide)).F (by decide)).F (by decide)), FV_tr a9 (vs1 := vs) (fun v hv => ?_) (Nat.le_refl _)⟩
  · obtain ⟨b1, b2⟩ := m5 v hv
    obtain ⟨e1, e2, e3⟩ := f3_o (F := F1) (x := x) (y := y) (w9 := w9) (v := vs1) (w := φ1 v) (by omega)
    exact ⟨Nat.lt_succ_of_lt b1, b2.keep (hW.1 v hv) h6 Xt.rf hv (fun _ _ => rfl) e1 e2 e3 (fun i _ => fk 55 (by decide) (by decide) (by decide) _)⟩
  · exact (m6 k hk).keep (hW.2 k hk) Xt.rf hk (fun _ _ => rfl) (fk 57 (by decide) (by decide) (by decide) _) (fk 58 (by decide) (by decide) (by decide) _) (fk 59 (by decide) (by decide) (by decide) _) (fk 60 (by decide) (by decide) (by decide) _)
  · obtain ⟨e1, e2, e3⟩ := f3_o (F := F1) (x := x) (y := y) (w9 := w9) (v := vs1) (w := v) (by omega)
    exact ⟨e1, e2, e3, fun i _ => fk 55 (by decide) (by decide) (by decide) _⟩
/-- a value of the second program becomes the machine's next -/
theorem YK.whole {so n e : Nat} {xv : Int32} {fs : List Nat} {q : Nat} (h : YK tr al vs c φ o F s a vs1 φ1 u) (hW : wmW tr N dp a) (h6 : ∀ m, m < N → tr 2 m ≤ 6) (hn : wnv s ≤ wnv a) (hq : q < vs1) (hq2 : vs ≤ q) (e0 : u.2 52 q = nI so) (e1 : so ≤ 1 → u.2 53 q = xv) (e2 : so = 2 → u.2 53 q = nI n ∧ u.2 54 q = sgt e) (e3 : so = 3 → u.2 53 q = nI n ∧ u.2 54 q = nI (tr 2 n) ∧ (∀ y ∈ fs, y < wnv a) ∧ ∀ i, i < fs.length → u.2 55 (6 * q + i) = nI (φ1 (fs.getD i 0))) : YK tr al vs c φ o F s (wmv a so n e xv fs).1 vs1 (phu φ1 (wnv a) q) u := by
  obtain ⟨⟨⟨m1, m2, m3, m4⟩, m5, m6⟩, a2, a3, a4, a8, a9⟩ := h
  obtain ⟨k1, k2, k3, k4, k5⟩ := wmv_k (s := a) (so := so) (n := n) (e := e) (x := xv) (fs := fs)
  have X := x_wmv (s := a) (so := so) (n := n) (e := e) (x := xv) (fs := fs)
  have hp : ∀ w, w < wnv a → phu φ1 (wnv a) q w = φ1 w := fun w hw => phu_n (by omega)
  refine ⟨⟨⟨m1, by rw [k2]; exact m2, by rw [k3]; exact m3, m4⟩, fun v hv => ?_, fun k hk => ?_⟩, ⟨a2.1, by rw [k3]; exact a2.2⟩, ⟨fun v hv => (hp v (by omega)).trans (a3.1 v hv), fun v h1 h2 => ?_⟩, a4, a8, a9⟩
  · rw [k1] at hv
    by_cases ev : v = wnv a
    · subst ev
      rw [phu_s]
      refine ⟨hq, ?_⟩
      obtain ⟨b1, b2, b3, b4, b5⟩ := wmv_n (s := a) (so := so) (n := n) (e := e) (x := xv) (fs := fs)
      unfold MV
      rw [b1, b2, b3, b4, b5, phu_s]
      refine ⟨e0, e1, e2, fun z => ?_⟩
      obtain ⟨c1, c2, c3, c4⟩ := e3 z
      exact ⟨c1, c2, fun i hi => by rw [c4 i hi, hp _ (c3 _ (gD_mem hi))]⟩
    · have hv2 : v < wnv a := by omega
      rw [hp v hv2]
      exact ⟨(m5 v hv2).1, (m5 v hv2).2.keep (hW.1 v hv2) h6 X hv2 hp rfl rfl rfl (fun _ _ => rfl)⟩
  · rw [k2] at hk
    exact (m6 k hk).keep (hW.2 k hk) X hk hp rfl rfl rfl rfl
  · rw [k1] at h2
    by_cases ev : v = wnv a
    · rw [ev, phu_s]
      exact hq2
    · rw [hp v (by omega)]
      exact a3.2 v h1 (by omega)
theorem YK.made {so n e : Nat} {xv : Int32} (h : YK tr al vs c φ o F s a vs1 φ1 (o1, F1)) (hW : wmW tr N dp a) (h6 : ∀ m, m < N → tr 2 m ≤ 6) (hn : wnv s ≤ wnv a) (hu : u = (upd o1 51 (nI (vs1 + 1)), fput (fput (fput F1 52 vs1 x) 53 vs1 y) 54 vs1 w9)) (e0 : x = nI so) (e1 : so ≤ 1 → y = xv) (e2 : so = 2 → y = nI n ∧ w9 = sgt e) (e3 : so ≠ 3) : YK tr al vs (c + 1) φ o F s (wmv a so n e xv []).1 (vs1 + 1) (phu φ1 (wnv a) vs1) u := by
  have h2 := h.hole hW h6 hu
  subst hu
  obtain ⟨f1, f2, f3⟩ := f3_s (F := F1) (v := vs1) (x := x) (y := y) (w9 := w9)
  exact h2.whole hW h6 hn (Nat.lt_succ_self _) h.2.1.1 (f1.trans e0) (fun z => f2.trans (e1 z)) (fun z => ⟨f2.trans (e2 z).1, f3.trans (e2 z).2⟩) (fun z => absurd z e3)
theorem YK.env {le va re nx : Nat} (h : YK tr al vs c φ o F s a vs1 φ1 (o1, F1)) (hW : wmW tr N dp a) (h6 : ∀ m, m < N → tr 2 m ≤ 6) (hu : u = (upd o1 56 (nI (ne a + 1)), fput (fput (fput (fput F1 57 (ne a) x) 58 (ne a) y) 59 (ne a) w9) 60 (ne a) nx9)) (e0 : x = nI le) (e1 : re = 0 → y = nI (φ1 va)) (e2 : w9 = sgt re) (e3 : nx9 = sgt nx) : YK tr al vs c φ o F s (wme a le va re nx) vs1 φ1 u := by
  obtain ⟨⟨⟨m1, m2, m3, m4⟩, m5, m6⟩, a2, a3, a4, a8, a9⟩ := h
  subst hu
  obtain ⟨k1, k2, k3, k4, k5, k6⟩ := wme_k (s := a) (le := le) (va := va) (re := re) (nx := nx)
  have X := x_wme (s := a) (le := le) (va := va) (re := re) (nx := nx)
  have f5 : ∀ k, k ≠ 57 → k ≠ 58 → k ≠ 59 → k ≠ 60 → ∀ j, fput (fput (fput (fput F1 57 (ne a) x) 58 (ne a) y) 59 (ne a) w9) 60 (ne a) nx9 k j = F1 k j := fun k h1 h2 h3 h4 j => by
    rw [fput_k h4, fput_k h3, fput_k h2, fput_k h1]
  refine ⟨⟨⟨m1, rfl, by rw [k3]; exact m3, m4⟩, fun v hv => ?_, fun k hk => ?_⟩, ⟨a2.1, by rw [k3]; exact a2.2⟩, ⟨a3.1, fun v h1 h2 => a3.2 v h1 (by rw [k2] at h2; exact h2)⟩, a4, (((((a8.o (by decide)).F (by decide)).F (by decide)).F (by decide)).F (by decide)), FV_tr a9 (vs1 := vs) (fun v hv => ?_) (Nat.le_refl _)⟩
  · rw [k2] at hv
    exact ⟨(m5 v hv).1, (m5 v hv).2.keep (hW.1 v hv) h6 X hv (fun _ _ => rfl) (f5 52 (by decide) (by decide) (by decide) (by decide) _) (f5 53 (by decide) (by decide) (by decide) (by decide) _) (f5 54 (by decide) (by decide) (by decide) (by decide) _) (fun i _ => f5 55 (by decide) (by decide) (by decide) (by decide) _)⟩
  · rw [k1] at hk
    by_cases ek : k = ne a
    · subst ek
      obtain ⟨b1, b2, b3, b4, b5⟩ := wme_n (s := a) (le := le) (va := va) (re := re) (nx := nx)
      unfold ME
      rw [b1, b2, b3, b4]
      have g57 : fput (fput (fput (fput F1 57 (ne a) x) 58 (ne a) y) 59 (ne a) w9) 60 (ne a) nx9 57 (ne a) = x := by rw [fput_k (by decide), fput_k (by decide), fput_k (by decide), fput_s]
      have g58 : fput (fput (fput (fput F1 57 (ne a) x) 58 (ne a) y) 59 (ne a) w9) 60 (ne a) nx9 58 (ne a) = y := by rw [fput_k (by decide), fput_k (by decide), fput_s]
      have g59 : fput (fput (fput (fput F1 57 (ne a) x) 58 (ne a) y) 59 (ne a) w9) 60 (ne a) nx9 59 (ne a) = w9 := by rw [fput_k (by decide), fput_s]
      have g60 : fput (fput (fput (fput F1 57 (ne a) x) 58 (ne a) y) 59 (ne a) w9) 60 (ne a) nx9 60 (ne a) = nx9 := fput_s
      exact ⟨g57.trans e0, fun z => g58.trans (e1 z), g59.trans e2, g60.trans e3⟩
    · have hk2 : k < ne a := by omega
      refine (m6 k hk2).keep (hW.2 k hk2) X hk2 (fun _ _ => rfl) ?_ ?_ ?_ ?_
      · show fput (fput (fput (fput F1 57 (ne a) x) 58 (ne a) y) 59 (ne a) w9) 60 (ne a) nx9 57 k = _
        rw [fput_k (by decide), fput_k (by decide), fput_k (by decide), fput_j (by omega)]
      · show fput (fput (fput (fput F1 57 (ne a) x) 58 (ne a) y) 59 (ne a) w9) 60 (ne a) nx9 58 k = _
        rw [fput_k (by decide), fput_k (by decide), fput_j (by omega), fput_k (by decide)]
      · show fput (fput (fput (fput F1 57 (ne a) x) 58 (ne a) y) 59 (ne a) w9) 60 (ne a) nx9 59 k = _
        rw [fput_k (by decide), fput_j (by omega), fput_k (by decide), fput_k (by decide)]
      · show fput (fput (fput (fput F1 57 (ne a) x) 58 (ne a) y) 59 (ne a) w9) 60 (ne a) nx9 60 k = _
        rw [fput_j (by omega), fput_k (by decide), fput_k (by decide), fput_k (by decide)]
  · exact ⟨f5 52 (by decide) (by decide) (by decide) (by decide) _, f5 53 (by decide) (by decide) (by decide) (by decide) _, f5 54 (by decide) (by decide) (by decide) (by decide) _, fun i _ => f5 55 (by decide) (by decide) (by decide) (by decide) _⟩
/-- a field of a record that is not whole yet -/
theorem YK.prt {q i : Nat} (h : YK tr al vs c φ o F s a vs1 φ1 (o1, F1)) (hW : wmW tr N dp a) (h6 : ∀ m, m < N → tr 2 m ≤ 6) (hq : vs ≤ q) (hi : i < 6) (hg : ∀ v, v < wnv a → φ1 v ≠ q) : YK tr al vs c φ o F s a vs1 φ1 (o1, fput F1 55 (6 * q + i) x) := by
  obtain ⟨⟨⟨m1, m2, m3, m4⟩, m5, m6⟩, a2, a3, a4, a8, a9⟩ := h
  refine ⟨⟨⟨m1, m2, m3, m4⟩, fun v hv => ⟨(m5 v hv).1, ?_⟩, fun k hk => (m6 k hk).keep (hW.2 k hk) Xt.rf hk (fun _ _ => rfl) rfl rfl rfl rfl⟩, a2, a3, a4, a8.F (by decide), FV_tr a9 (vs1 := vs) (fun v hv => ?_) (Nat.le_refl _)⟩
  · have hne := hg v hv
    exact (m5 v hv).2.keep (hW.1 v hv) h6 Xt.rf hv (fun _ _ => rfl) rfl rfl rfl (fun k hk => show fput F1 55 (6 * q + i) x 55 (6 * φ1 v + k) = F1 55 (6 * φ1 v + k) from fput_j (by omega))
  · exact ⟨rfl, rfl, rfl, fun k hk => show fput F1 55 (6 * q + i) x 55 (6 * v + k) = F1 55 (6 * v + k) from fput_j (by omega)⟩
theorem YK.halt {why n c3 : Nat} {rv : Int32} (h : YK tr al vs c φ o F s a vs1 φ1 (o1, F1)) (h67 : o1 67 ≠ 0) (hw : why ≠ 0) (hx : x = nI why) (hy : y = nI n) (hu : u = (if o1 67 = 0 then o1 else upd (upd (upd o1 67 0) 61 x) 65 y, F1)) : YQ tr al vs c3 φ o F s (wmh a why n) rv u := by
  rw [if_neg h67] at hu
  subst hu
  obtain ⟨⟨⟨m1, m2, m3, m4⟩, m5, m6⟩, a2, a3, ⟨a4, a5, a6, a7⟩, a8, a9⟩ := h
  exact Or.inl ⟨hw, rfl, hx, hy, m3, a5, ((a8.o (by decide)).o (by decide)).o (by decide)⟩
theorem YQ.stop {r : wmS} {rv : Int32} {v c3 : Nat} (h : YK tr al vs c φ o F s a vs1 φ1 (o1, F1)) (h' : YH o1 F1 r u) : YQ tr al vs c3 φ o F s (r, v) rv u := by
  obtain ⟨b1, b2, b3, b4, b5, b6, b7⟩ := h'
  exact Or.inl ⟨b1, b2, b3, b4, b5, b6.trans h.2.2.2.1.2.1, h.2.2.2.2.1.tr b7⟩
theorem YQ.tail {r : wmS × Nat} {rv : Int32} {c2 c3 : Nat} (h : YK tr al vs c φ o F s a vs1 φ1 (o1, F1)) (h' : YQ tr al vs1 c2 φ1 o1 F1 a r rv u) (hn : wnv s ≤ wnv a) (hc : c + c2 ≤ c3) : YQ tr al vs c3 φ o F s r rv u := by
  rcases h' with h' | ⟨z, vs2, φ2, h', e⟩
  · obtain ⟨r1, r2⟩ := r
    exact YQ.stop h h'
  · exact Or.inr ⟨z, vs2, φ2, (h.trans h' hn).mono hc, e⟩
theorem YQ.was {r : Nat} {rv : Int32} {c3 : Nat} (h : YK tr al vs c φ o F s a vs1 φ1 u) (hz : hlt a = 0) (hc : c ≤ c3) (e : rv = nI (φ1 r)) : YQ tr al vs c3 φ o F s (a, r) rv u := Or.inr ⟨hz, vs1, φ1, h.mono hc, e⟩
theorem YQ.val {so n e : Nat} {xv rv : Int32} {fs : List Nat} {q c3 : Nat} (h : YK tr al vs c φ o F s (wmv a so n e xv fs).1 vs1 (phu φ1 (wnv a) q) u) (hz : hlt a = 0) (hc : c ≤ c3) (e9 : rv = nI q) : YQ tr al vs c3 φ o F s (wmv a so n e xv fs) rv u :=
  Or.inr ⟨hz, vs1, _, h.mono hc, e9.trans (congrArg nI (show q = phu φ1 (wnv a) q (wnv a) from phu_s.symm))⟩
/-- one run begun and done -/
theorem YQ.done {r : wmS × Nat} {rv rw9 z9 : Int32} {F2 : Nat → Nat → Int32} {o2 : Nat → Int32} (h : YQ tr al vs 1 φ (upd (upd o 62 x) 64 y) F (wmb s) r rv (o2, F2)) (e9 : hlt r.1 = 0 → rw9 = rv) (e8 : z9 = o 64) : YQ tr al vs 0 φ o F s r rw9 (upd o2 64 z9, F2) := by
  rcases h with ⟨b1, b2, b3, b4, b5, b6, b7⟩ | ⟨z, vs2, φ2, ⟨⟨⟨m1, m2, m3, m4⟩, m5, m6⟩, ⟨a2, a3⟩, a4, ⟨a5, a6, a7, a8⟩, a9, a10⟩, e⟩
  · exact Or.inl ⟨b1, b2, b3, b4, b5, e8, (((Kq.rf.o (by decide)).o (by decide)).tr b7).o (by decide)⟩
  · refine Or.inr ⟨z, vs2, φ2, ⟨⟨⟨m1, m2, m3, m4⟩, m5, m6⟩, ⟨a2, ?_⟩, a4, ⟨a5, e8, a7, a8⟩, (((Kq.rf.o (by decide)).o (by decide)).tr a9).o (by decide), a10⟩, (e9 z).trans e⟩
    have e : bgn (wmb s) = bgn s + 1 := rfl
    omega
end YKs
section YMs
variable {tr : aM} {N al vs c vs1 : Nat} {dp : Nat → Nat} {o o1 : Nat → Int32} {F F1 : Nat → Nat → Int32} {s a b : wmS} {φ φ1 φ2 : Nat → Nat} {u : mS} {x y w9 nx9 : Int32} {n : Nat}
theorem wmpl_no {x : Nat} : ∀ k i, (∀ j, i ≤ j → j < i + k → tr (20 + j) n ≠ x) → wmpl tr n x k i = i + k
  | 0, i, _ => rfl
  | k + 1, i, h => by
    unfold wmpl
    rw [if_neg (h i (Nat.le_refl _) (by omega)), wmpl_no k (i + 1) (fun j h1 h2 => h j (by omega) (by omega))]
    omega
theorem wmpl_at {x p : Nat} : ∀ k i, i ≤ p → p < i + k → tr (20 + p) n = x → (∀ j, i ≤ j → j < p → tr (20 + j) n ≠ x) → wmpl tr n x k i = p
  | 0, i, h1, h2, _, _ => absurd h2 (by omega)
  | k + 1, i, h1, h2, h3, h4 => by
    unfold wmpl
    by_cases h : i = p
    · subst h
      rw [if_pos h3]
    · rw [if_neg (h4 i (Nat.le_refl _) (by omega)), wmpl_at k (i + 1) (by omega) (by omega) h3 (fun j h5 h6 => h4 j (by omega) h6)]
theorem MR9.beg (h : MR9 tr al vs o F s φ) : MR9 tr al vs (upd (upd o 62 (nI (bgn s + 1))) 64 y) F (wmb s) φ :=
  ⟨⟨h.1.1, h.1.2.1, rfl, h.1.2.2.2⟩, h.2.1, h.2.2⟩
theorem YQ.mono {r : wmS × Nat} {rv : Int32} {c2 : Nat} (h : YQ tr al vs c φ o F s r rv u) (hc : c ≤ c2) : YQ tr al vs c2 φ o F s r rv u :=
  h.imp id (fun ⟨z, vs1, φ1, h1, h2⟩ => ⟨z, vs1, φ1, h1.mono hc, h2⟩)
theorem YQ.go {r : wmS × Nat} {rv : Int32} (h : YQ tr al vs c φ o F s r rv u) (h67 : o 67 ≠ 0) (hz : hlt r.1 = 0) : u.1 67 ≠ 0 := by
  rcases h with h | ⟨z, vs1, φ1, h1, h2⟩
  · exact absurd hz h.1
  · rw [h1.2.2.2.1.2.2.2]
    exact h67
theorem YQ.q64 {r : wmS × Nat} {rv : Int32} (h : YQ tr al vs c φ o F s r rv u) : u.1 64 = o 64 := by
  rcases h with h | ⟨z, vs1, φ1, h1, h2⟩
  · exact h.2.2.2.2.2.1
  · exact h1.2.2.2.1.2.1
end YMs
theorem wmk_z {s : wmS} {x : Nat} : ∀ m, wmk s x m 0 = 0
  | 0 => rfl
  | m + 1 => by rw [wmk_s]; exact if_pos rfl
theorem eln_s {tr : aM} {N : Nat} {dp : Nat → Nat} {s : wmS} {q : Nat} (h : wmW tr N dp s) (hq : q < ne s) : eln s (q + 1) = eln s (enx s q) + 1 := by
  have e : eln s (q + 1) = s.1 9 q := by
    unfold eln
    rw [if_neg (Nat.succ_ne_zero q), Nat.add_sub_cancel]
  exact e.trans (h.2 q hq).2.1
theorem wmk_q {s : wmS} {x m q : Nat} : wmk s x (m + 1) (q + 1) = if ele s q = x then q + 1 else wmk s x m (enx s q) := by
  rw [wmk_s, if_neg (Nat.succ_ne_zero q), Nat.add_sub_cancel]
/-- a RECORD's run under way in the second program: its value's number is vs, i fields are told -/
def YR (tr : aM) (N : Nat) (dp : Nat → Nat) (f : wmS → Nat → Nat → wmS × Nat) (al vs : Nat) (φ : Nat → Nat) (o : Nat → Int32) (F : Nat → Nat → Int32) (ws : wmS) (n e9 : Nat) (s2 : wmS) (vs1 : Nat) (φ1 : Nat → Nat) (vl : List Nat) (i : Nat) (u : mS) : Prop := hlt s2 = 0 ∧ wmW tr N dp s2 ∧ Xt ws s2 ∧ wmC al ws s2 0 ∧ YK tr al vs 1 φ o F ws s2 vs1 φ1 u ∧ vs < vs1 ∧ (∀ v, v < wnv s2 → φ1 v ≠ vs) ∧ (u.2 52 vs = 3 ∧ u.2 53 vs = nI n ∧ u.2 54 vs = nI (tr 2 n)) ∧ (vl.length = i ∧ (∀ y ∈ vl, y < wnv s2) ∧ ∀ q, q < i → u.2 55 (6 * vs + q) = nI (φ1 (vl.getD q 0))) ∧ wmRI tr f ws n e9 s2 vl i
section YRs
variable {tr : aM} {N al vs vs1 n e9 i : Nat} {dp : Nat → Nat} {f : wmS → Nat → Nat → wmS × Nat} {o o1 ob : Nat → Int32} {F F1 Fb : Nat → Nat → Int32} {ws s2 R : wmS} {φ φ1 Rph : Nat → Nat} {vl : List Nat} {Rv Rvs : Nat} {u : mS}
theorem YR.ze (hR : MR9 tr al vs o F ws φ) (hW : wmW tr N dp ws) (h0 : hlt ws = 0) (hb : bgn ws ≤ al) (h6 : ∀ m, m < N → tr 2 m ≤ 6) (hu : u = (upd o 51 (nI (vs + 1)), fput (fput (fput F 52 vs 3) 53 vs (nI n)) 54 vs (nI (tr 2 n)))) : YR tr N dp f al vs φ o F ws n e9 ws (vs + 1) φ [] 0 u := by
  have h2 := (YK.rf hR).hole hW h6 hu
  subst hu
  exact ⟨h0, hW, Xt.rf, C0 hb, h2, Nat.lt_succ_self _, fun v hv e => by have := (hR.2.1 v hv).1; omega, f3_s, ⟨rfl, fun y h => absurd h List.not_mem_nil, fun q hq => absurd hq (by omega)⟩, wmRI.ze⟩
theorem YR.st (h : YR tr N dp f al vs φ o F ws n e9 s2 vs1 φ1 vl i (o1, F1)) (hi : i < tr 2 n) (h2 : tr 2 n ≤ 6) (h6 : ∀ m, m < N → tr 2 m ≤ 6) (e : f s2 (tr (10 + i) n) e9 = (R, Rv)) (RW : wmW tr N dp R) (RX : Xt s2 R) (Rc : wmC al s2 R 0) (Rz : hlt R = 0) (Rvi : Rv < wnv R) (Rk : YK tr al vs1 0 φ1 o1 F1 s2 R Rvs Rph (ob, Fb)) : YR tr N dp f al vs φ o F ws n e9 R Rvs Rph (vl ++ [Rv]) (i + 1) (ob, fput Fb 55 (6 * vs + i) (nI (Rph Rv))) := by
  obtain ⟨a1, a2, a3, a4, a5, a6, a7, a8, ⟨b1, b2, b3⟩, a10⟩ := h
  have hne : ∀ v, v < wnv R → Rph v ≠ vs := fun v hv => by
    by_cases hv2 : v < wnv s2
    · rw [Rk.2.2.1.1 v hv2]
      exact a7 v hv2
    · have := Rk.2.2.1.2 v (by omega) hv
      omega
  have K2 : YK tr al vs 1 φ o F ws R Rvs Rph (ob, Fb) := (YK.trans a5 Rk a3.1)
  obtain ⟨c1, c2, c3, c4⟩ := Rk.2.2.2.2.2 vs a6
  have hvs : vs < Rvs := Nat.lt_of_lt_of_le a6 Rk.2.1.1
  refine ⟨Rz, RW, a3.tr RX, a4.trans Rc, K2.prt RW h6 (Nat.le_refl _) (by omega) hne, hvs, hne, ⟨c1.trans a8.1, c2.trans a8.2.1, c3.trans a8.2.2⟩, ⟨by rw [List.length_append, b1]; rfl, fun y hy => ?_, fun q hq => ?_⟩, wmRI.st a10 hi e Rz⟩
  · rcases List.mem_append.mp hy with h | h
    · exact Nat.lt_of_lt_of_le (b2 y h) RX.1
    · rw [List.mem_singleton.mp h]
      exact Rvi
  · by_cases e9 : q = i
    · subst e9
      rw [getD_at b1]
      show fput Fb 55 (6 * vs + q) (nI (Rph Rv)) 55 (6 * vs + q) = _
      exact fput_s
    · rw [getD_lt (by omega)]
      refine (show fput Fb 55 (6 * vs + i) (nI (Rph Rv)) 55 (6 * vs + q) = Fb 55 (6 * vs + q) from fput_j (by omega)).trans ?_
      refine (c4 q (by omega)).trans ((b3 q (by omega)).trans ?_)
      rw [Rk.2.2.1.1 _ (b2 _ (gD_mem (by omega)))]
theorem YR.en (h : YR tr N dp f al vs φ o F ws n e9 s2 vs1 φ1 vl i u) (hi : i = tr 2 n) (h6 : ∀ m, m < N → tr 2 m ≤ 6) : YQ tr al vs 1 φ o F ws (wmRecord tr f ws n e9) (nI vs) u := by
  obtain ⟨a1, a2, a3, a4, a5, a6, a7, a8, ⟨b1, b2, b3⟩, a10⟩ := h
  rw [wmRI.en a10 hi a1]
  exact YQ.val (a5.whole (so := 3) (n := n) (e := 0) (xv := 0) (fs := vl) a2 h6 a3.1 a6 (Nat.le_refl _) a8.1 (fun z => absurd z (by decide)) (fun z => absurd z (by decide)) (fun _ => ⟨a8.2.1, a8.2.2, b2, fun i9 hi9 => b3 i9 (by omega)⟩)) a1 (Nat.le_refl _) rfl
theorem YH.fp {a : wmS} {j : Nat} {x : Int32} (h : YH o F a (o1, F1)) : YH o F a (o1, fput F1 55 j x) := by
  obtain ⟨b1, b2, b3, b4, b5, b6, b7⟩ := h
  exact ⟨b1, b2, b3, b4, b5, b6, b7.F (by decide)⟩
theorem YR.ha (h : YR tr N dp f al vs φ o F ws n e9 s2 vs1 φ1 vl i (o1, F1)) (hi : i < tr 2 n) (e : f s2 (tr (10 + i) n) e9 = (R, Rv)) (Rh : YH o1 F1 R u) : YH o F R u ∧ wmRecord tr f ws n e9 = (R, 0) := by
  obtain ⟨a1, a2, a3, a4, a5, a6, a7, a8, ⟨b1, b2, b3⟩, a10⟩ := h
  refine ⟨?_, wmRI.ha a10 hi e Rh.1⟩
  obtain ⟨b1, b2, b3, b4, b5, b6, b7⟩ := Rh
  exact ⟨b1, b2, b3, b4, b5, b6.trans a5.2.2.2.1.2.1, a5.2.2.2.2.1.tr b7⟩
end YRs
