theorem kt_yop {s : aS} {y : aG} {c : Nat} : Kt s y s (yop y c) := ⟨by
  have e1 : sF (yop y c) = sF y := by simp [sF, yop, h1, h2, mst]
  have e2 : sA (yop y c) = sA y := by simp [sA, yop, h1, h2, mst]
  omega, fun t _ => Nat.le_of_eq (by simp [nf, yop, h1, h2, mst])⟩
/-- behind a first part: its zone is closed, its type a SCHEME -/
theorem scheme_ok {s : aS} {y y1 : aG} {s1 : aS} {c l n t : Nat} (hI : Inv s y c) (hz : Cx y c l c) (hI1 : Inv s1 y1 (sZ y)) (hE : Ex s (yop y c) s1 y1) (ht : Fi s1 y1 t (l + 1) (sZ y)) (hp : ps y1 t = 1) :
    Pb (gives s1 n t (l + 1)) y1 c l n := by
  obtain ⟨o1, o2, o3, o4, o5, o6⟩ := i_open hI
  have hG := hI.1
  have eZ : sZ (yop y c) = sZ y + 1 := by simp [sZ, yop, h1, h2, mst]
  have hlen : (pth y c).length = l + 1 := (pth_split hG.2.2.1.1 hz).2.2
  have pz : pth y1 (sZ y) = pth y c ++ [sZ y] := (hE.2.2.2.2.1 (sZ y) (by omega)).trans o3
  have pc : pth y1 c = pth y c := (hE.2.2.2.2.1 c (by have := hG.2.2.1.2.1; omega)).trans (o4 c hG.2.2.1.2.1)
  obtain ⟨x8, x9⟩ := gives_at s1 n t (l + 1) n
  rw [if_pos rfl] at x8 x9
  refine ⟨fun h => by omega, fun m hm => ?_⟩
  have hml : m = l := by omega
  subst hml
  rw [x8]
  refine ⟨Nat.le_refl _, hp, sZ y, hI1.1.2.2.1.1, hI1.1.2.2.1.2.1, ?_, ht.ext hI1.1.2.2.1.2.1 (i_give (n := n) (t := t) (sc := m + 1) hI1).2, fun d hd => ?_, fun d x hd _ hx => ?_⟩
  · unfold Cx
    rw [pz, List.getElem?_append_right (by omega), hlen, Nat.sub_self]
    rfl
  · rw [pc, pz, List.getElem?_append_left (by omega)]
  · unfold Cx at hx
    rw [pc] at hx
    obtain ⟨h9, -⟩ := List.getElem?_eq_some_iff.mp hx
    omega
theorem close_ok {s : aS} {y y1 : aG} {s1 : aS} {c l : Nat} (hI : Inv s y c) (hz : Cx y c l c) (hI1 : Inv s1 y1 (sZ y)) (hE : Ex s (yop y c) s1 y1) : Inv s1 y1 c ∧ Ex s y s1 y1 := by
  obtain ⟨o1, o2, o3, o4, o5, o6⟩ := i_open hI
  have hG := hI.1
  have eZ : sZ (yop y c) = sZ y + 1 := by simp [sZ, yop, h1, h2, mst]
  have pz : pth y1 (sZ y) = pth y c ++ [sZ y] := (hE.2.2.2.2.1 (sZ y) (by omega)).trans o3
  have pc : pth y1 c = pth y c := (hE.2.2.2.2.1 c (by have := hG.2.2.1.2.1; omega)).trans (o4 c hG.2.2.1.2.1)
  have hE2 := o2.tr hE
  exact ⟨i_close hI1 (by rw [pz, pc]) (Zok.ext (s := s) (s' := s1) hG.2.2.1.1 hG.2.2.1.2.1 (fun d z' hd => hG.2.2.1.2.2.1 c hG.2.2.1.2.1 z' (List.mem_of_getElem? hd)) hE2) (by have := hE2.1.2.2.1; have := hG.2.2.1.2.1; omega), hE2⟩
theorem opn_cx {s : aS} {y : aG} {c l : Nat} (hI : Inv s y c) (hz : Cx y c l c) : Cx (yop y c) (sZ y) (l + 1) (sZ y) := by
  obtain ⟨o1, o2, o3, -⟩ := i_open hI
  have hlen : (pth y c).length = l + 1 := (pth_split hI.1.2.2.1.1 hz).2.2
  unfold Cx
  rw [o3, List.getElem?_append_right (by omega), hlen, Nat.sub_self]
  rfl
/-- LET -/
theorem let_ok {tr : aM} {top : Nat} {rk : Nat → Nat} {Vd : Nat → Prop} {f : aS → Nat → Nat → aS × Nat} (hf : TyF tr top rk Vd f) (hfs : TyS f) (hr : ∀ c, tr 3 c ≠ 0 → rk (tr 3 c - 1) < rk c) {s : aS} {y : aG} {c l n p q : Nat} (h0 : sto s = 0) (hW : W2 s) (hI : Inv s y c) (hz : Cx y c l c) (hC : ∀ j, Cv (Pb s y c l) tr top j n) (hp : tr 3 p = n + 1) (hq : tr 3 q = n + 1) (hvp : Vd p) (hvq : Vd q) (hb : ¬ covers tr n p) {s1 : aS × Nat}
    (e1 : s1 = f s p (l + 1)) : TyG rk s y c l n (f (gives s1.1 n s1.2 (l + 1)) q l) := by
  refine ⟨fun h => absurd h0 h, ?_⟩
  obtain ⟨o1, o2, o3, o4, o5, o6⟩ := i_open hI
  have hz0 := opn_cx hI hz
  obtain ⟨a0, y1, a1, a2, a3, a4, a5⟩ := hf s (yop y c) (sZ y) p (l + 1) hvp hW o1 hz0 (cv_child hr hC hp (fun h => absurd h hb) (fun u _ hP => hP.opn hI hz))
  rw [← e1] at a0 a1 a2 a3 a4 a5
  obtain ⟨b1, b2⟩ := close_ok hI hz a1 a2
  have hkt := (kt_yop (s := s) (y := y) (c := c)).tr a3 o2
  obtain ⟨i1, i2⟩ := i_give (n := n) (t := s1.2) (sc := l + 1) b1
  have hrp : rk n < rk p := by
    have := hr p (by omega)
    have e : tr 3 p - 1 = n := by omega
    rw [e] at this
    exact this
  have hfr : ∀ u, rk u < rk n → (gives s1.1 n s1.2 (l + 1)).1 8 u = s.1 8 u ∧ (gives s1.1 n s1.2 (l + 1)).1 9 u = s.1 9 u := fun u hu => by
    have hne : u ≠ n := fun h => by
      rw [h] at hu
      omega
    obtain ⟨x1, x2⟩ := gives_at s1.1 n s1.2 (l + 1) u
    rw [if_neg hne] at x1 x2
    obtain ⟨x3, x4⟩ := a4 u (by omega)
    exact ⟨x1.trans x3, x2.trans x4⟩
  have hE1 := b2.tr i2
  by_cases hs1 : sto s1.1 ≠ 0
  · have e3 : (f (gives s1.1 n s1.2 (l + 1)) q l).1 = gives s1.1 n s1.2 (l + 1) := hfs _ _ _ hs1
    rw [e3]
    exact ⟨y1, i1, hE1, hkt, hfr, fun h => absurd h hs1⟩
  obtain ⟨t1, t2⟩ := a5 (by omega)
  have hPb := scheme_ok (n := n) hI hz a1 a2 t1 t2
  obtain ⟨⟨d0, y2, d1, d2, d3, d4, d5⟩, d6, d7⟩ := part_ok hf hr hW hI hz hC i1 hE1 hfr hq hvq (fun _ => hPb)
  exact ⟨y2, d1, hE1.tr d2, Kt.tr (s1 := gives s1.1 n s1.2 (l + 1)) hkt d3 hE1, fun u hu => by
    obtain ⟨x1, x2⟩ := d4 u (by omega)
    obtain ⟨x3, x4⟩ := hfr u hu
    exact ⟨x1.trans x3, x2.trans x4⟩, d5⟩
