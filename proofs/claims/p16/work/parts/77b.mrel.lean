/-! ===== copying: small facts ===== -/
theorem otw_lt {way : Nat} (h : way < 2) : otw way = 1 - way := if_neg (by omega)
theorem mkey_lt {z : aS} {t way : Nat} (h : way < 2) : mkey z t way = 2 * one z t + way := by
  unfold mkey
  rcases (by omega : way = 0 ∨ way = 1) with rfl | rfl
  · rw [if_neg (by decide)]
  · rw [if_pos rfl]
theorem me_stops (s : aS) (w q i : Nat) : memo (stops s w q) i = memo s i := by
  unfold stops
  split
  · rfl
  · rfl
theorem me_newV (s : aS) (l i : Nat) : memo (newV s l) i = memo s i := rfl
theorem me_mkV (s : aS) (l i : Nat) : memo (mkV s l).1 i = memo s i := by
  unfold mkV
  split
  · exact me_stops _ _ _ _
  · split
    · exact me_stops _ _ _ _
    · rfl
theorem me_mkA (s : aS) (a b i : Nat) : memo (mkA s a b).1 i = memo s i := by
  unfold mkA
  split
  · rfl
  · split
    · exact me_stops _ _ _ _
    · rfl
theorem me_mkR (s : aS) (ls ps : List Nat) (i : Nat) : memo (mkR s ls ps).1 i = memo s i := by
  unfold mkR
  split
  · rfl
  · split
    · exact me_stops _ _ _ _
    · rfl
theorem me_bind (s : aS) (v sd t i : Nat) : memo (bind s v sd t) i = memo s i := rfl
theorem cp_sto {k t way ab lv : Nat} {z : aS} (h : sto (cp k z t way ab lv).1 = 0) : sto z = 0 := by
  by_cases e : sto z = 0
  · exact e
  · rw [cp_stop e] at h
    exact absurd h e
theorem stops_sto0 {s : aS} {w q : Nat} (h : sto (stops s w q) = 0) : sto s = 0 := by
  by_cases e : sto s = 0
  · exact e
  · rw [stops_no e] at h
    exact absurd h e
theorem mkA_sto {s : aS} {a b : Nat} (h : sto (mkA s a b).1 = 0) : sto s = 0 := by
  by_cases e : sto s = 0
  · exact e
  · rw [show mkA s a b = (s, 0) from if_pos e] at h
    exact absurd h e
theorem mkR_sto {s : aS} {ls ps : List Nat} (h : sto (mkR s ls ps).1 = 0) : sto s = 0 := by
  by_cases e : sto s = 0
  · exact e
  · rw [show mkR s ls ps = (s, 0) from if_pos e] at h
    exact absurd h e
theorem HM.next {z z' : aS} {hm k k2 : Nat} {o o1 o2 : Nat → Int32} {F F1 F2 : Nat → Nat → Int32} (h : HM z hm k o F (o1, F1)) (e1 : o2 39 = o1 39) (e2 : F2 38 = F1 38) (hk : k ≤ k2) (hz : sto z' = 0 → sto z = 0) : HM z' hm k2 o F (o2, F2) := by
  obtain ⟨h1, ⟨h', g1, g2, g3⟩, h3⟩ := h
  exact ⟨fun h => e1.trans (h1 (hz h)), ⟨h', e1.trans g1, g2, by omega⟩, fun j hj => by show F2 38 j = _; rw [e2]; exact h3 j hj⟩
theorem MR.rw {s : aS} {ix : Nat → Nat → Nat} {o : Nat → Int32} {F : Nat → Nat → Int32} {t sd : Nat} (h : MR s ix o F) (ht : t < nT s) (h3 : srt s t = 3) (hsd : sd < 2) : Rw (bnd s) (nT s) (row s sd t) (ix (2 * one s t + sd)) F (2 * one s t + sd) ∧ one s t < nV s := by
  obtain ⟨v1, v2, v3⟩ := h.2.2.2.2.2.1.1 t ht h3
  have hw := h.2.2.2.2.2.2.1 (one s t) v2 sd hsd
  rw [v3] at hw
  exact ⟨hw, v2⟩
theorem cpV_lt {z : aS} {t way lv : Nat} (h : way < 2) : cpV z t way lv = bind (w1 (newV z lv) 7 (2 * one z t + way) (nT z + 1)) t (1 - way) (nT z) := by
  unfold cpV link
  rw [mkey_lt h]
  rcases (by omega : way = 0 ∨ way = 1) with rfl | rfl
  · rw [if_pos rfl]
  · rw [if_neg (by decide), if_pos rfl]
theorem cp_vL {k t way ab lv : Nat} {z : aS} (h0 : sto z = 0) (hw : way < 2) (h : ¬ lev z t ≤ ab) (h1 : srt z t = 3) (hm : memo z (2 * one z t + way) = 0) (hv : mkV z lv = (newV z lv, nT z)) : cp (k + 1) z t way ab lv = (cpR (fun s x => cp k s x way ab lv) (nT z) way (cpV z t way lv) (row (cpV z t way lv) way t), nT z) := by
  rw [← mkey_lt hw] at hm
  rcases (by omega : way = 0 ∨ way = 1) with rfl | rfl
  · exact cp_v0 h0 h h1 hm hv
  · exact cp_v1 h0 h h1 hm hv
/-- a copy is told in the memo -/
theorem ML.new {lf q : Nat} {z z' : aS} {F F' : Nat → Nat → Int32} (h : ML lf z F) (hm : ∀ i, memo z' i = if i = q then nT z + 1 else memo z i) (hn : nT z + 1 ≤ nT z') (e36 : F' 36 = upd (F 36) q (nI lf)) (e37 : F' 37 = upd (F 37) q (nI (nT z))) : ML lf z' F' := fun i hi => by
  rw [hm, e36, e37]
  by_cases e : i = q
  · rw [e, if_pos rfl, upd_s, upd_s]
    exact ⟨fun h => absurd h (by omega), fun _ => ⟨rfl, rfl, hn⟩⟩
  · rw [if_neg e, upd_n e, upd_n e]
    obtain ⟨h1, h2⟩ := h i hi
    exact ⟨h1, fun h => ⟨(h2 h).1, (h2 h).2.1, by have := (h2 h).2.2; omega⟩⟩
theorem b_vL {k way ab lv n : Nat} {z : aS} {xs : List Nat} : bnd z ≤ bnd (cpR (fun s x => cp k s x way ab lv) n way z xs) := b_cpR (fun s x => b_cp k s x way ab lv) n way xs z
/-- a row goes on from what it was -/
theorem Lx.row {s s' : aS} (h : Lx s s') {t sd : Nat} (ht : t < nT s) (hsd : sd < 2) {i : Nat} (hi : i < (row s sd t).length) : (row s' sd t).getD i 0 = (row s sd t).getD i 0 ∧ (row s sd t).length ≤ (row s' sd t).length := by
  obtain ⟨l, hl⟩ := h.2.2.2.2.1 sd hsd t ht
  rw [hl]
  exact ⟨gtL hi, by rw [List.length_append]; omega⟩
theorem tkS {l : List Nat} {i : Nat} (h : i < l.length) : l.take (i + 1) = l.take i ++ [l.getD i 0] := by
  rw [gtD h, List.take_succ, List.getElem?_eq_getElem h]
  rfl
theorem lmax_le {s : aS} : ∀ {l : List Nat}, (∀ x ∈ l, lev s x ≤ 100) → lmax s l ≤ 100
  | [], _ => Nat.zero_le _
  | x :: l, h => by
    have a := h x (by simp)
    have b := lmax_le (l := l) (fun y hy => h y (by simp [hy]))
    show max (lev s x) (lmax s l) ≤ 100
    omega
theorem Px.at {s : aS} {ix ix' : Nat → Nat → Nat} {o : Nat → Int32} {F : Nat → Nat → Int32} {t sd i : Nat} (h : Px s ix ix') (hR : MR s ix o F) (ht : t < nT s) (h3 : srt s t = 3) (hsd : sd < 2) (hi : i < (row s sd t).length) : ix' (2 * one s t + sd) i = ix (2 * one s t + sd) i := by
  obtain ⟨v1, v2, v3⟩ := hR.2.2.2.2.2.1.1 t ht h3
  exact h (one s t) v2 sd hsd i (by rw [v3]; exact hi)
/-- a place of a row, seen from an earlier time -/
theorem MR.pl {s0 s : aS} {ix : Nat → Nat → Nat} {o : Nat → Int32} {F : Nat → Nat → Int32} {t sd i : Nat} (hR : MR s ix o F) (hL : Lx s0 s) (ht : t < nT s0) (h3 : srt s0 t = 3) (hsd : sd < 2) (hi : i < (row s0 sd t).length) : i < (row s sd t).length ∧ ix (2 * one s0 t + sd) i < bnd s ∧ F 17 (ix (2 * one s0 t + sd) i) = nI ((row s0 sd t).getD i 0) ∧ (row s0 sd t).getD i 0 < nT s ∧ t < nT s ∧ srt s t = 3 ∧ one s t = one s0 t ∧ (i + 1 < (row s0 sd t).length → F 18 (ix (2 * one s0 t + sd) i) = nI (ix (2 * one s0 t + sd) (i + 1))) := by
  obtain ⟨g1, g2⟩ := hL.row ht hsd hi
  obtain ⟨e1, -, e3, -⟩ := hL.2.2.1 t ht
  have ht' : t < nT s := Nat.lt_of_lt_of_le ht hL.1
  obtain ⟨hw, -⟩ := hR.rw ht' (e1.trans h3) hsd
  obtain ⟨w1, w2, w3, w4⟩ := hw.2.2.2.2 i (by omega)
  rw [g1] at w2 w3
  rw [e3] at w1 w2 w4
  refine ⟨by omega, w1, w2, w3, ht', e1.trans h3, e3, fun h => ?_⟩
  rw [w4, if_pos (by omega)]
theorem MR.sr3 {s : aS} {ix : Nat → Nat → Nat} {o : Nat → Int32} {F : Nat → Nat → Int32} {t : Nat} (h : MR s ix o F) (ht : t < nT s) : srt s t ≤ 3 ∧ (srt s t = 0 → lev s t = 0) := (h.2.2.1 t ht).2.2.1
theorem MR.is3 {s : aS} {ix : Nat → Nat → Nat} {o : Nat → Int32} {F : Nat → Nat → Int32} {t ab : Nat} (h : MR s ix o F) (ht : t < nT s) (hl : ab < lev s t) (n1 : ¬ srt s t = 1) (n2 : ¬ srt s t = 2) : srt s t = 3 := by
  obtain ⟨y1, y2⟩ := h.sr3 ht
  by_cases y3 : srt s t = 0
  · have := y2 y3
    omega
  · omega
theorem b_ite (Z : aS × Nat) (n sd : Nat) : bnd Z.1 ≤ bnd (if sto Z.1 = 0 then bind Z.1 n sd Z.2 else Z.1) := by
  split
  · rw [b_bind]
    omega
  · exact Nat.le_refl _
/-! made anew: both sides, one behind the other -/
def cpS (f : aS → Nat → aS × Nat) (n t sd : Nat) (w : aS) : aS := if sd = 0 then cpR f n 1 (cpR f n 0 w (row w 0 t)) (row (cpR f n 0 w (row w 0 t)) 1 t) else if sd = 1 then cpR f n 1 w (row w 1 t) else w
theorem cpS_s {f : aS → Nat → aS × Nat} {n t sd : Nat} {w : aS} (h : sd < 2) : cpS f n t sd w = cpS f n t (sd + 1) (cpR f n sd w (row w sd t)) := by
  rcases (by omega : sd = 0 ∨ sd = 1) with rfl | rfl
  · rfl
  · rfl
theorem b_cpS {k ab lv n t sd : Nat} {w : aS} : bnd w ≤ bnd (cpS (fun s x => cp k s x 2 ab lv) n t sd w) := by
  unfold cpS
  split
  · exact Nat.le_trans b_vL b_vL2
  · split
    · exact b_vL2
    · exact Nat.le_refl _
where b_vL2 {z : aS} {xs : List Nat} : bnd z ≤ bnd (cpR (fun s x => cp k s x 2 ab lv) n 1 z xs) := b_cpR (fun s x => b_cp k s x 2 ab lv) n 1 xs z
      b_vL {z : aS} {xs : List Nat} : bnd z ≤ bnd (cpR (fun s x => cp k s x 2 ab lv) n 0 z xs) := b_cpR (fun s x => b_cp k s x 2 ab lv) n 0 xs z
theorem b_vR {k way ab lv n sd : Nat} {z : aS} {xs : List Nat} : bnd z ≤ bnd (cpR (fun s x => cp k s x way ab lv) n sd z xs) := b_cpR (fun s x => b_cp k s x way ab lv) n sd xs z
theorem MN.new {lf q : Nat} {z z' : aS} {F F' : Nat → Nat → Int32} (h : MN lf z F) (hm : ∀ i, memo z' i = if i = 2 * q then nT z + 1 else memo z i) (hn : nT z + 1 ≤ nT z') (e40 : F' 40 = upd (F 40) q (nI lf)) (e41 : F' 41 = upd (F 41) q (nI (nT z))) : MN lf z' F' := fun v hv => by
  rw [hm, e40, e41]
  by_cases e : v = q
  · rw [e, if_pos rfl, upd_s, upd_s]
    exact ⟨fun h => absurd h (by omega), fun _ => ⟨rfl, rfl, hn⟩⟩
  · rw [if_neg (by omega), upd_n e, upd_n e]
    obtain ⟨h1, h2⟩ := h v hv
    exact ⟨h1, fun h => ⟨(h2 h).1, (h2 h).2.1, by have := (h2 h).2.2; omega⟩⟩
theorem cp_vA {k t ab lv : Nat} {z : aS} (h0 : sto z = 0) (h : ¬ lev z t ≤ ab) (h1 : srt z t = 3) (hm : memo z (2 * one z t) = 0) (hv : mkV z lv = (newV z lv, nT z)) : cp (k + 1) z t 2 ab lv = (cpS (fun s x => cp k s x 2 ab lv) (nT z) t 0 (w1 (newV z lv) 7 (2 * one z t) (nT z + 1)), nT z) := cp_v2 h0 h h1 hm hv
