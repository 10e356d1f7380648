/-! ===== TYPING: what each step leaves, put together ===== -/
def LT : List Nat := [7, 8, 9, 10, 11, 12, 13, 14, 15, 16, 17, 18, 19, 20, 21, 24, 25, 26, 27, 28, 29, 30, 31, 32, 33, 34, 35, 36, 37, 38, 39, 40, 41, 42, 43, 44]
def HE (z z' : aS) (k : Nat) (o : Nat → Int32) (F : Nat → Nat → Int32) (u : mS) : Prop := (sto z' = 0 → u.1 39 = o 39) ∧ (∀ h, h < 2 ^ 31 → o 39 = nI h → ∃ h', u.1 39 = nI h' ∧ h ≤ h' ∧ h' ≤ h + 6 * k ∧ ∀ j, j < h → u.2 38 j = F 38 j) ∧ (sto z ≠ 0 → u.1 39 = o 39 ∧ u.2 38 = F 38)
theorem HE.rf {z z' : aS} {k : Nat} {o o' : Nat → Int32} {F F' : Nat → Nat → Int32} (e1 : o' 39 = o 39) (e2 : F' 38 = F 38) : HE z z' k o F (o', F') := ⟨fun _ => e1, fun h _ hh => ⟨h, e1.trans hh, Nat.le_refl _, by omega, fun j _ => by show F' 38 j = _; rw [e2]⟩, fun _ => ⟨e1, e2⟩⟩
theorem HE.tr {z z1 z2 : aS} {k : Nat} {o o1 : Nat → Int32} {F F1 : Nat → Nat → Int32} {u : mS} (h1 : HE z z1 k o F (o1, F1)) (h2 : HE z1 z2 k o1 F1 u) (hb : sto z2 = 0 → sto z1 = 0) (hb1 : sto z1 = 0 → sto z = 0) : HE z z2 k o F u := by
  obtain ⟨a1, a2, a3⟩ := h1
  obtain ⟨b1, b2, b3⟩ := h2
  refine ⟨fun h => (b1 h).trans (a1 (hb h)), fun h hl hh => ?_, fun h => ?_⟩
  · by_cases e : sto z1 = 0
    · obtain ⟨h', c1, c2, c3, c4⟩ := b2 h hl ((a1 e).trans hh)
      obtain ⟨h3, d1, d2, d3, d4⟩ := a2 h hl hh
      exact ⟨h', c1, c2, c3, fun j hj => (c4 j hj).trans (d4 j hj)⟩
    · obtain ⟨h3, d1, d2, d3, d4⟩ := a2 h hl hh
      obtain ⟨e1, e2⟩ := b3 e
      exact ⟨h3, e1.trans d1, d2, d3, fun j hj => by rw [e2]; exact d4 j hj⟩
  · have e : sto z1 ≠ 0 := fun h3 => h (hb1 h3)
    obtain ⟨e1, e2⟩ := b3 e
    obtain ⟨d1, d2⟩ := a3 h
    exact ⟨e1.trans d1, e2.trans d2⟩
theorem HE.mono {z z' : aS} {k k2 : Nat} {o : Nat → Int32} {F : Nat → Nat → Int32} {u : mS} (h : HE z z' k o F u) (hk : k ≤ k2) : HE z z' k2 o F u := by
  obtain ⟨h1, h2, h3⟩ := h
  refine ⟨h1, fun q hl hq => ?_, h3⟩
  obtain ⟨h', g1, g2, g3, g4⟩ := h2 q hl hq
  exact ⟨h', g1, g2, by omega, g4⟩
theorem HE.of {z z' : aS} {k hm : Nat} {o : Nat → Int32} {F : Nat → Nat → Int32} {u : mS} (hh : o 39 = nI hm) (hlt : hm < 2 ^ 31) (h : HM z' hm k o F u) (hs : sto z ≠ 0 → u = (o, F)) : HE z z' k o F u := by
  obtain ⟨h1, ⟨h', g1, g2, g3⟩, h3⟩ := h
  refine ⟨h1, fun q hl hq => ?_, fun h => by rw [hs h]; exact ⟨rfl, rfl⟩⟩
  have := (nI_eq hlt hl).mp (hh.symm.trans hq)
  subst this
  exact ⟨h', g1, g2, g3, h3⟩
/-- TYPING's state in the second program -/
def TS (tr : aM) (N top : Nat) (gs : Nat → Prop) (z : aS) (ix : Nat → Nat → Nat) (lf an : Nat) (o : Nat → Int32) (F : Nat → Nat → Int32) : Prop :=
  MR z ix o F ∧ TRm tr N o F ∧ GV gs z F ∧ (M0 lf F ∧ o 35 = nI lf ∧ lf ≤ stp z) ∧ (N0 an F ∧ o 42 = nI an) ∧ o 31 = nI 0 ∧ o 32 = nI 0 ∧ o 33 = nI 0 ∧ o 45 = nI top
/-- from one moment to a later one -/
def TW (tr : aM) (N top : Nat) (gs : Nat → Prop) (z : aS) (ix : Nat → Nat → Nat) (an : Nat) (gs' : Nat → Prop) (z' : aS) (ix' : Nat → Nat → Nat) (lf' an' dn k : Nat) (o : Nat → Int32) (F : Nat → Nat → Int32) (u : mS) : Prop :=
  TS tr N top gs' z' ix' lf' an' u.1 u.2 ∧ Px z ix ix' ∧ an' ≤ an + dn ∧ (∀ q, gs q → gs' q) ∧ HE z z' k o F u ∧ u.1 34 = o 34 ∧ Kq LT o F u ∧ Lx z z' ∧ (sto z' = 0 → sto z = 0)
theorem TW.rf {tr : aM} {N top : Nat} {gs : Nat → Prop} {z : aS} {ix : Nat → Nat → Nat} {lf an k : Nat} {o : Nat → Int32} {F : Nat → Nat → Int32} (h : TS tr N top gs z ix lf an o F) : TW tr N top gs z ix an gs z ix lf an 0 k o F (o, F) := ⟨h, Px.rf, Nat.le_refl _, fun _ h => h, HE.rf rfl rfl, rfl, Kq.rf, Lx.rf, id⟩
theorem TW.tr {tr : aM} {N top : Nat} {gs gs1 gs2 : Nat → Prop} {z z1 z2 : aS} {ix ix1 ix2 : Nat → Nat → Nat} {an lf1 an1 lf2 an2 d1 d2 k : Nat} {o o1 : Nat → Int32} {F F1 : Nat → Nat → Int32} {u : mS} (h1 : TW tr N top gs z ix an gs1 z1 ix1 lf1 an1 d1 k o F (o1, F1)) (h2 : TW tr N top gs1 z1 ix1 an1 gs2 z2 ix2 lf2 an2 d2 k o1 F1 u) (hR : MR z ix o F) : TW tr N top gs z ix an gs2 z2 ix2 lf2 an2 (d1 + d2) k o F u := by
  obtain ⟨a1, a2, a3, a4, a5, a6, a7, a8, a9⟩ := h1
  obtain ⟨b1, b2, b3, b4, b5, b6, b7, b8, b9⟩ := h2
  exact ⟨b1, Px.tr hR a2 a8 b2, by omega, fun q h => b4 q (a4 q h), a5.tr b5 b9 a9, b6.trans a6, a7.tr b7, a8.tr b8, fun h => a9 (b9 h)⟩
theorem TW.wk {tr : aM} {N top : Nat} {gs gs1 : Nat → Prop} {z z1 : aS} {ix ix1 : Nat → Nat → Nat} {an lf1 an1 d1 d2 k k2 : Nat} {o : Nat → Int32} {F : Nat → Nat → Int32} {u : mS} (h : TW tr N top gs z ix an gs1 z1 ix1 lf1 an1 d1 k o F u) (hd : d1 ≤ d2) (hk : k ≤ k2) : TW tr N top gs z ix an gs1 z1 ix1 lf1 an1 d2 k2 o F u := by
  obtain ⟨a1, a2, a3, a4, a5, a6, a7, a8, a9⟩ := h
  exact ⟨a1, a2, by omega, a4, a5.mono hk, a6, a7, a8, a9⟩
theorem TRm.keep {tr : aM} {N : Nat} {o : Nat → Int32} {F : Nat → Nat → Int32} {u : mS} (h : TRm tr N o F) (hK : ∀ k, k < 7 → u.1 k = o k ∧ u.2 k = F k) : TRm tr N u.1 u.2 := by
  unfold TRm
  rw [(hK 0 (by omega)).1, (hK 1 (by omega)).2, (hK 2 (by omega)).2, (hK 3 (by omega)).2, (hK 4 (by omega)).2, (hK 5 (by omega)).2, (hK 6 (by omega)).2]
  exact h
/-- a step that keeps to the types' own fields -/
theorem TW.leaf {tr : aM} {N top : Nat} {gs : Nat → Prop} {z z' : aS} {ix ix' : Nat → Nat → Nat} {lf an k : Nat} {o : Nat → Int32} {F : Nat → Nat → Int32} {u : mS} (h : TS tr N top gs z ix lf an o F) (hM : MR z' ix' u.1 u.2) (hPx : Px z ix ix') {L : List Nat} (hK : Kq L o F u) (hL : ∀ k ∈ L, 7 ≤ k ∧ k ≤ 30 ∧ k ≠ 22 ∧ k ≠ 23) (hX : Lx z z') (h8 : K89 z z') (hs : sto z' = 0 → sto z = 0) : TW tr N top gs z ix an gs z' ix' lf an 0 k o F u := by
  obtain ⟨c1, c2, c3, ⟨c4, c5, c6⟩, ⟨c7, c8⟩, c9, c10, c11, c12⟩ := h
  have nK : ∀ k, (k < 7 ∨ 30 < k) → u.1 k = o k ∧ u.2 k = F k := fun k hk => hK k (fun hm => by have := hL k hm; omega)
  refine ⟨⟨hM, c2.keep (fun k hk => nK k (Or.inl hk)), c3.to h8 hX.1 hs (nK 43 (by omega)).2 (nK 44 (by omega)).2, ⟨c4.to (nK 36 (by omega)).2, (nK 35 (by omega)).1.trans c5, Nat.le_trans c6 hX.2.2.2.2.2⟩, ⟨?_, (nK 42 (by omega)).1.trans c8⟩, (nK 31 (by omega)).1.trans c9, (nK 32 (by omega)).1.trans c10, (nK 33 (by omega)).1.trans c11, (nK 45 (by omega)).1.trans c12⟩, hPx, Nat.le_refl _, fun _ h => h, ?_, (nK 34 (by omega)).1, hK.mono (fun k hk => ?_), hX, hs⟩
  · intro v hv
    rw [(nK 40 (by omega)).2]
    exact c7 v hv
  · obtain ⟨u1, u2⟩ := u
    exact HE.rf (nK 39 (by omega)).1 (nK 38 (by omega)).2
  · have := hL k hk
    unfold LT
    simp only [List.mem_cons, List.not_mem_nil, or_false]
    omega
theorem TW.ask {tr : aM} {N top : Nat} {gs : Nat → Prop} {z : aS} {ix : Nat → Nat → Nat} {lf an k n : Nat} {o : Nat → Int32} {F : Nat → Nat → Int32} (h : TS tr N top gs z ix lf an o F) (hn : n < 120) : TW tr N top gs z ix an gs (w1 z 0 5 n) ix lf an 0 k o F (upd o 25 (nI n), F) :=
  TW.leaf h (h.1.r_askn hn) Px.rf (L := [25]) (Kq.rf.o (by decide)) (by decide) (Lx.w1 _ _ _ _ (by omega)) (k_w1 _ _ _ _ (by omega)) id
/-- a node gives -/
theorem TW.give {tr : aM} {N top : Nat} {gs : Nat → Prop} {z : aS} {ix : Nat → Nat → Nat} {lf an k n t sch : Nat} {o : Nat → Int32} {F : Nat → Nat → Int32} {x y : Int32} (h : TS tr N top gs z ix lf an o F) (hx : sto z = 0 → x = nI t ∧ t < nT z) (hy : y = if sch = 0 then -9 else nI (sch - 1)) (hs : sch ≤ 100) : TW tr N top gs z ix an (fun q => q = n ∨ gs q) (gives z n t sch) ix lf an 0 k o F (o, fput (fput F 43 n x) 44 n y) := by
  obtain ⟨c1, c2, c3, c4, c5, c6⟩ := h
  exact ⟨⟨c1, c2, c3.gives rfl rfl hx hy hs, c4, c5, c6⟩, Px.rf, Nat.le_refl _, fun _ h => Or.inr h, HE.rf rfl rfl, rfl, (Kq.rf.F (by decide)).F (by decide), x_gives _ _ _ _, id⟩
/-- its scheme, later -/
theorem TW.sch {tr : aM} {N top : Nat} {gs : Nat → Prop} {z : aS} {ix : Nat → Nat → Nat} {lf an k n l : Nat} {o : Nat → Int32} {F : Nat → Nat → Int32} (h : TS tr N top gs z ix lf an o F) (hl : l + 1 ≤ 100) : TW tr N top gs z ix an gs (w1 z 9 n (l + 1)) ix lf an 0 k o F (o, fput F 44 n (nI l)) := by
  obtain ⟨c1, c2, c3, c4, c5, c6⟩ := h
  refine ⟨⟨c1, c2, fun h0 q hq => ?_, c4, c5, c6⟩, Px.rf, Nat.le_refl _, fun _ h => h, HE.rf rfl rfl, rfl, Kq.rf.F (by decide), Lx.w1 _ _ _ _ (by omega), id⟩
  obtain ⟨g1, g2, g3, g4⟩ := c3 h0 q hq
  have e9 : (w1 z 9 n (l + 1)).1 9 q = if q = n then l + 1 else z.1 9 q := rfl
  have e8 : (w1 z 9 n (l + 1)).1 8 q = z.1 8 q := rfl
  rw [e9, e8]
  show F 43 q = _ ∧ _ ∧ _ ∧ upd (F 44) n (nI l) q = _
  by_cases e : q = n
  · rw [e, upd_s, if_pos rfl, if_neg (by omega)]
    rw [e] at g1 g2
    exact ⟨g1, g2, hl, rfl⟩
  · rw [upd_n e, if_neg e]
    exact ⟨g1, g2, g3, g4⟩
/-- UNDER -/
theorem TW.under {tr : aM} {N top : Nat} {gs : Nat → Prop} {z z' : aS} {ix : Nat → Nat → Nat} {lf an k hm : Nat} {o : Nat → Int32} {F : Nat → Nat → Int32} {u : mS} {LU : List Nat} (h : TS tr N top gs z ix lf an o F) (hu : UQ LU z ix hm o F z' u) (hL : ∀ k ∈ LU, 7 ≤ k ∧ k ≤ 39 ∧ k ≠ 22 ∧ k ≠ 23 ∧ k ≠ 33 ∧ k ≠ 34) (hh : o 39 = nI hm) (hlt : hm < 2 ^ 31) (hX : Lx z z') (h8 : K89 z z') (hs : sto z' = 0 → sto z = 0) (hk : 60 ≤ k) : ∃ ix' lf', TW tr N top gs z ix an gs z' ix' lf' an 0 k o F u := by
  obtain ⟨c1, c2, c3, ⟨c4, c5, c6⟩, ⟨c7, c8⟩, c9, c10, c11, c12⟩ := h
  obtain ⟨⟨ix', lf', d1, d2, d3, d4, d5⟩, d6, d7, d8, d9, hK⟩ := hu
  have nK : ∀ k, (k < 7 ∨ 39 < k ∨ k = 33 ∨ k = 34) → u.1 k = o k ∧ u.2 k = F k := fun k hk => hK k (fun hm => by have := hL k hm; omega)
  refine ⟨ix', lf', ⟨d1, c2.keep (fun k hk => nK k (Or.inl hk)), c3.to h8 hX.1 hs (nK 43 (by omega)).2 (nK 44 (by omega)).2, ⟨d3, d4, d5⟩, ⟨?_, (nK 42 (by omega)).1.trans c8⟩, d8.trans c9, d9.trans c10, (nK 33 (by omega)).1.trans c11, (nK 45 (by omega)).1.trans c12⟩, d2, Nat.le_refl _, fun _ h => h, (HE.of hh hlt d7 d6).mono hk, (nK 34 (by omega)).1, hK.mono (fun k hk => ?_), hX, hs⟩
  · intro v hv
    rw [(nK 40 (by omega)).2]
    exact c7 v hv
  · have := hL k hk
    unfold LT
    simp only [List.mem_cons, List.not_mem_nil, or_false]
    omega
/-- MADE ANEW -/
theorem TW.anew {tr : aM} {N top : Nat} {gs : Nat → Prop} {z : aS} {r' : aS × Nat} {ix : Nat → Nat → Nat} {lf an k hm : Nat} {o : Nat → Int32} {F : Nat → Nat → Int32} {u : mS} {r : Int32} {LL : List Nat} (h : TS tr N top gs z ix lf an o F) (hu : LQ LL (MN (an + 1)) z ix hm 60 o F r' r u ∧ u.1 33 = o 33 ∧ u.1 42 = nI (an + 1)) (hL : ∀ k ∈ LL, 7 ≤ k ∧ k ≤ 42 ∧ k ≠ 22 ∧ k ≠ 23 ∧ k ≠ 25 ∧ k ≠ 26 ∧ k ≠ 31 ∧ k ≠ 32 ∧ k ≠ 34 ∧ k ≠ 35 ∧ k ≠ 36) (hh : o 39 = nI hm) (hlt : hm < 2 ^ 31) (hX : Lx z r'.1) (h8 : K89 z r'.1) (hs : sto r'.1 = 0 → sto z = 0) (hk : 60 ≤ k) : ∃ ix', TW tr N top gs z ix an gs r'.1 ix' lf (an + 1) 1 k o F u := by
  obtain ⟨c1, c2, c3, ⟨c4, c5, c6⟩, ⟨c7, c8⟩, c9, c10, c11, c12⟩ := h
  obtain ⟨⟨⟨ix', d1, d2⟩, d3, d4, d5, d6, hK⟩, d8, d9⟩ := hu
  have nK : ∀ k, (k < 7 ∨ 42 < k ∨ k = 31 ∨ k = 32 ∨ k = 34 ∨ k = 35 ∨ k = 36) → u.1 k = o k ∧ u.2 k = F k := fun k hk => hK k (fun hm => by have := hL k hm; omega)
  refine ⟨ix', ⟨d1, c2.keep (fun k hk => nK k (Or.inl hk)), c3.to h8 hX.1 hs (nK 43 (by omega)).2 (nK 44 (by omega)).2, ⟨c4.to (nK 36 (by omega)).2, (nK 35 (by omega)).1.trans c5, Nat.le_trans c6 hX.2.2.2.2.2⟩, ⟨d3.n0, d9⟩, (nK 31 (by omega)).1.trans c9, (nK 32 (by omega)).1.trans c10, d8.trans c11, (nK 45 (by omega)).1.trans c12⟩, d2, Nat.le_refl _, fun _ h => h, (HE.of hh hlt d6 d5).mono hk, (nK 34 (by omega)).1, hK.mono (fun k hk => ?_), hX, hs⟩
  have := hL k hk
  unfold LT
  simp only [List.mem_cons, List.not_mem_nil, or_false]
  omega
theorem start_sto {z : aS} {t way ab lv : Nat} (h : sto (startCp z t way ab lv).1 = 0) : sto z = 0 := cp_sto (k := 60) (z := newTime z) h
theorem mkV_sto {s : aS} {l : Nat} (h0 : sto s = 0) : sto (mkV s l).1 = 0 → sto s = 0 := fun _ => h0
theorem stops_sto2 {s : aS} {n p : Nat} (h0 : sto s = 0) : sto (stops (w1 s 0 5 n) 2 p) ≠ 0 := by
  rw [show stops (w1 s 0 5 n) 2 p = w1 (w1 (w1 s 0 5 n) 0 3 2) 0 4 (p + 1) from if_pos h0]
  exact fun h => absurd (show (2 : Nat) = 0 from h) (by decide)
