/-! ===== the law's first state ===== -/
/-- the static table of the parts, as the start has it -/
theorem zt_start {s : State} {args : Array Value} (hl : (Cond.laysStatic "PolarTypes$Tree" "PARTS_OF_KIND" "[I").before args s = true) (hi : (Cond.initialized "PolarTypes$Tree").before args s = true) (hg : (Jvm.Cond.and given_1 narrow_1).before args s = true) : ∃ tk : Nat, ZT tk (fun q : Nat => s.heap.size ≤ q) s s.heap := by
  have hs := flat_of_before _ hg
  have hA : ∀ a : Nat, a < s.heap.size → ¬ (fun q : Nat => s.heap.size ≤ q) a := fun a h => Nat.not_le.mpr h
  obtain ⟨t, ht, hT⟩ := va_Tof (tm := .static "PolarTypes$Tree" "PARTS_OF_KIND" "[I") (ty := .int) (N := 12) (f := fun j => .int (pkI j)) (A := fun q : Nat => s.heap.size ≤ q) (by decide) (hs (.arrayOf (.static "PolarTypes$Tree" "PARTS_OF_KIND" "[I") .int) (by decide +kernel)) (va_eqt (hs (.eq (.length (.static "PolarTypes$Tree" "PARTS_OF_KIND" "[I")) (.int 12)) (by decide +kernel))) (fun j hj => by
    rcases (show j = 0 ∨ j = 1 ∨ j = 2 ∨ j = 3 ∨ j = 4 ∨ j = 5 ∨ j = 6 ∨ j = 7 ∨ j = 8 ∨ j = 9 ∨ j = 10 ∨ j = 11 by omega) with rfl | rfl | rfl | rfl | rfl | rfl | rfl | rfl | rfl | rfl | rfl | rfl
    · exact va_eqt (hs (.eq (.elem (.static "PolarTypes$Tree" "PARTS_OF_KIND" "[I") (.int 0)) (.int 0)) (by decide +kernel))
    · exact va_eqt (hs (.eq (.elem (.static "PolarTypes$Tree" "PARTS_OF_KIND" "[I") (.int 1)) (.int 0)) (by decide +kernel))
    · exact va_eqt (hs (.eq (.elem (.static "PolarTypes$Tree" "PARTS_OF_KIND" "[I") (.int 2)) (.int 0)) (by decide +kernel))
    · exact va_eqt (hs (.eq (.elem (.static "PolarTypes$Tree" "PARTS_OF_KIND" "[I") (.int 3)) (.int 1)) (by decide +kernel))
    · exact va_eqt (hs (.eq (.elem (.static "PolarTypes$Tree" "PARTS_OF_KIND" "[I") (.int 4)) (.int 2)) (by decide +kernel))
    · exact va_eqt (hs (.eq (.elem (.static "PolarTypes$Tree" "PARTS_OF_KIND" "[I") (.int 5)) (.int 0)) (by decide +kernel))
    · exact va_eqt (hs (.eq (.elem (.static "PolarTypes$Tree" "PARTS_OF_KIND" "[I") (.int 6)) (.int 1)) (by decide +kernel))
    · exact va_eqt (hs (.eq (.elem (.static "PolarTypes$Tree" "PARTS_OF_KIND" "[I") (.int 7)) (.int 2)) (by decide +kernel))
    · exact va_eqt (hs (.eq (.elem (.static "PolarTypes$Tree" "PARTS_OF_KIND" "[I") (.int 8)) (.int 2)) (by decide +kernel))
    · exact va_eqt (hs (.eq (.elem (.static "PolarTypes$Tree" "PARTS_OF_KIND" "[I") (.int 9)) (.int 3)) (by decide +kernel))
    · exact va_eqt (hs (.eq (.elem (.static "PolarTypes$Tree" "PARTS_OF_KIND" "[I") (.int 10)) (.int 2)) (by decide +kernel))
    · exact va_eqt (hs (.eq (.elem (.static "PolarTypes$Tree" "PARTS_OF_KIND" "[I") (.int 11)) (.int 2)) (by decide +kernel))) hA
  exact ⟨t, va_Zref hl hi ht hA, hT⟩
def s0O (k : Nat) : Int32 := if k = 11 then -9 else if k = 13 then -9 else if k = 14 then -4 else if k = 112 then -9 else if k = 113 then -9 else 0
def S00 (rh rq rn : Nat → Nat) (rf : Nat → Nat → Int32) (tq : Nat) : cS := (s0O, fun r => if r < 35 then rf r else fun _ => 0, fun a r => if a = 0 then s0K r else if a = 1 then rn r else if a = 2 then rq r else if a = 3 then rh r else if r = 0 then 0 else tq)
section Z
variable {D : va_G} {cI cB cR : ClassId} {ga rh rq rn : Nat → Nat} {rf : Nat → Nat → Int32} {tq h0 : Nat}
set_option maxRecDepth 100000 in
theorem cW_S00 (h : ga 0 = h0) : cW (D, cI, cB, cR, ga) (S00 rh rq rn rf tq) = [(h0, .inr (7, [.ref (ga 1), .ref (ga 4), .ref (ga 5), .ref (ga 6)])), (ga 1, .inr (3, [.ref (rh 0), .ref (rh 1), .ref (rh 2), .ref (rh 3), .ref (rh 4), .ref (rh 5)])), (ga 2, .inr (4, [.ref (rh 6), .ref (rh 7), .ref (rh 8), .ref (rh 9), .ref (rh 10), .ref (rh 11), .ref (rh 12), .ref (rh 13), .ref (rh 14), .ref (ga 12), .ref (rh 15), .ref (rh 16), .ref (rh 17), .ref (rh 18)])), (ga 3, .inr (2, [.ref (ga 2), .ref (rh 19), .ref (rh 20), .ref (rh 21), .ref (rh 22), .ref tq])), (ga 4, .inr (5, [.ref (ga 1), .ref (ga 2), .ref (ga 3), .ref (ga 7), .ref (rh 23), .ref (rh 24), .ref (rh 25), .ref (rh 26), .int 0, .int 0, .int 0, .int ((-9)), .int 0, .int ((-9)), .int ((-4))])), (ga 5, .inr (6, [.ref (ga 1), .ref (ga 8), .ref (rh 27), .ref (rh 28), .ref (rh 29), .ref (rh 30), .ref (rh 31), .ref (rh 32), .ref (rh 33), .ref (rh 34), .int 0, .int 0, .int ((-9)), .int ((-9))])), (ga 6, .inr (1, [.ref (ga 9), .int 0])), (ga 7, .inr (1, [.ref (ga 10), .int 0])), (ga 8, .inr (1, [.ref (ga 11), .int 0])), (ga 9, .inl (cB, 400, .inl (fun _ => 0))), (ga 10, .inl (cB, 400, .inl (fun _ => 0))), (ga 11, .inl (cB, 200, .inl (fun _ => 0))), (ga 12, .inl (cR, 300, .inr (.inr (.inr (.inr (fun _ => none)))))), (rh 0, .inr (0, [.ref (rq 0), .int (nI 0)])), (rq 0, .inl (cI, rn 0, .inl (rf 0))), (rh 1, .inr (0, [.ref (rq 1), .int (nI 0)])), (rq 1, .inl (cI, rn 1, .inl (rf 1))), (rh 2, .inr (0, [.ref (rq 2), .int (nI 0)])), (rq 2, .inl (cI, rn 2, .inl (rf 2))), (rh 3, .inr (0, [.ref (rq 3), .int (nI 0)])), (rq 3, .inl (cI, rn 3, .inl (rf 3))), (rh 4, .inr (0, [.ref (rq 4), .int (nI 0)])), (rq 4, .inl (cI, rn 4, .inl (rf 4))), (rh 5, .inr (0, [.ref (rq 5), .int (nI 0)])), (rq 5, .inl (cI, rn 5, .inl (rf 5))), (rh 6, .inr (0, [.ref (rq 6), .int (nI 2)])), (rq 6, .inl (cI, rn 6, .inl (rf 6))), (rh 7, .inr (0, [.ref (rq 7), .int (nI 2)])), (rq 7, .inl (cI, rn 7, .inl (rf 7))), (rh 8, .inr (0, [.ref (rq 8), .int (nI 2)])), (rq 8, .inl (cI, rn 8, .inl (rf 8))), (rh 9, .inr (0, [.ref (rq 9), .int (nI 2)])), (rq 9, .inl (cI, rn 9, .inl (rf 9))), (rh 10, .inr (0, [.ref (rq 10), .int (nI 0)])), (rq 10, .inl (cI, rn 10, .inl (rf 10))), (rh 11, .inr (0, [.ref (rq 11), .int (nI 0)])), (rq 11, .inl (cI, rn 11, .inl (rf 11))), (rh 12, .inr (0, [.ref (rq 12), .int (nI 0)])), (rq 12, .inl (cI, rn 12, .inl (rf 12))), (rh 13, .inr (0, [.ref (rq 13), .int (nI 0)])), (rq 13, .inl (cI, rn 13, .inl (rf 13))), (rh 14, .inr (0, [.ref (rq 14), .int (nI 0)])), (rq 14, .inl (cI, rn 14, .inl (rf 14))), (rh 15, .inr (0, [.ref (rq 15), .int (nI 0)])), (rq 15, .inl (cI, rn 15, .inl (rf 15))), (rh 16, .inr (0, [.ref (rq 16), .int (nI 2)])), (rq 16, .inl (cI, rn 16, .inl (rf 16))), (rh 17, .inr (0, [.ref (rq 17), .int (nI 0)])), (rq 17, .inl (cI, rn 17, .inl (rf 17))), (rh 18, .inr (0, [.ref (rq 18), .int (nI 0)])), (rq 18, .inl (cI, rn 18, .inl (rf 18))), (rh 19, .inr (0, [.ref (rq 19), .int (nI 0)])), (rq 19, .inl (cI, rn 19, .inl (rf 19))), (rh 20, .inr (0, [.ref (rq 20), .int (nI 0)])), (rq 20, .inl (cI, rn 20, .inl (rf 20))), (rh 21, .inr (0, [.ref (rq 21), .int (nI 0)])), (rq 21, .inl (cI, rn 21, .inl (rf 21))), (rh 22, .inr (0, [.ref (rq 22), .int (nI 300)])), (rq 22, .inl (cI, rn 22, .inl (rf 22))), (rh 23, .inr (0, [.ref (rq 23), .int (nI 120)])), (rq 23, .inl (cI, rn 23, .inl (rf 23))), (rh 24, .inr (0, [.ref (rq 24), .int (nI 120)])), (rq 24, .inl (cI, rn 24, .inl (rf 24))), (rh 25, .inr (0, [.ref (rq 25), .int (nI 300)])), (rq 25, .inl (cI, rn 25, .inl (rf 25))), (rh 26, .inr (0, [.ref (rq 26), .int (nI 300)])), (rq 26, .inl (cI, rn 26, .inl (rf 26))), (rh 27, .inr (0, [.ref (rq 27), .int (nI 0)])), (rq 27, .inl (cI, rn 27, .inl (rf 27))), (rh 28, .inr (0, [.ref (rq 28), .int (nI 0)])), (rq 28, .inl (cI, rn 28, .inl (rf 28))), (rh 29, .inr (0, [.ref (rq 29), .int (nI 0)])), (rq 29, .inl (cI, rn 29, .inl (rf 29))), (rh 30, .inr (0, [.ref (rq 30), .int (nI 0)])), (rq 30, .inl (cI, rn 30, .inl (rf 30))), (rh 31, .inr (0, [.ref (rq 31), .int (nI 0)])), (rq 31, .inl (cI, rn 31, .inl (rf 31))), (rh 32, .inr (0, [.ref (rq 32), .int (nI 0)])), (rq 32, .inl (cI, rn 32, .inl (rf 32))), (rh 33, .inr (0, [.ref (rq 33), .int (nI 0)])), (rq 33, .inl (cI, rn 33, .inl (rf 33))), (rh 34, .inr (0, [.ref (rq 34), .int (nI 0)])), (rq 34, .inl (cI, rn 34, .inl (rf 34)))] := by
  subst h
  rfl
theorem cl_S00 (h : ∀ r, r < 35 → s0K r ≤ rn r ∧ rn r ≤ 2 * lim r + 4) : CL (S00 rh rq rn rf tq) := by
  refine ⟨Nat.zero_le _, fun r hr => ?_⟩
  have hr : r < 35 := hr
  have hk : ∀ r, r < 35 → s0K r ≤ lim r := by decide
  exact ⟨(h r hr).1, (h r hr).2, hk r hr⟩
theorem ci_S00 (h : rf 6 0 = 0 ∧ rf 6 1 = 1 ∧ rf 7 0 = 0 ∧ rf 7 1 = 0) : CI (S00 rh rq rn rf tq) 0 := by
  obtain ⟨a0, a1, b0, b1⟩ := h
  have f6 : ∀ t, t < 2 → (kF (S00 rh rq rn rf tq) 6 t = 0 ∨ kF (S00 rh rq rn rf tq) 6 t = 1) ∧ kF (S00 rh rq rn rf tq) 7 t = 0 := fun t ht => by
    rcases (show t = 0 ∨ t = 1 by omega) with rfl | rfl
    · exact ⟨Or.inl a0, b0⟩
    · exact ⟨Or.inr a1, b1⟩
  refine ⟨⟨⟨Nat.zero_le _, rfl, rfl, rfl, rfl, rfl, rfl⟩, fun n hn => absurd hn (Nat.not_lt_zero _)⟩, ⟨2, 0, 0, 0, 0, ⟨rfl, rfl, rfl, rfl, rfl, rfl, rfl, rfl, rfl, rfl, rfl, rfl⟩, ⟨by decide, by decide, Nat.le_refl _, by decide⟩, fun t ht h4 => ?_, fun t ht h3 => ?_, fun t ht => ?_⟩, ⟨rfl, rfl, rfl, rfl⟩, ⟨0, rfl, by decide⟩, ⟨0, rfl, by decide⟩, ⟨0, rfl, by decide⟩⟩
  · rcases (f6 t ht).1 with z | z <;> rw [z] at h4 <;> exact absurd h4 (by decide)
  · rcases (f6 t ht).1 with z | z <;> rw [z] at h3 <;> exact absurd h3 (by decide)
  · refine Or.inr (Or.inr (Or.inr ?_))
    rw [(f6 t ht).2]
    exact Int32.le_refl _
end Z
def o00 (k : Nat) : Int32 := if k = 24 then -9 else if k = 61 then -9 else if k = 65 then -9 else 0
theorem ri_00 : RI (fun _ _ => 0) 0 o00 (fun _ _ => 0) := by
  refine ⟨⟨rfl, Nat.zero_le _, fun n hn => absurd hn (Nat.not_lt_zero _)⟩, fun n hn => absurd hn (Nat.not_lt_zero _), ⟨fun _ => 0, fun c h => absurd rfl h, fun n hn => absurd hn (Nat.not_lt_zero _)⟩, Or.inl ⟨rfl, rfl⟩, fun h => absurd h (by decide)⟩
theorem mAd.to {M : mG} {q : Nat} (o : Nat → Int32) (F : Nat → Nat → Int32) (h : mAd M q) : ∃ (k : Nat) (e : va_E), (mW M o F)[k]? = some (q, e) := by
  obtain ⟨k, e, h⟩ := h
  have h1 : ((mW M o F).map (fun q => q.1))[k]? = some q := by
    rw [mW_adr M o (fun _ => 0) F (fun _ _ => 0), List.getElem?_map, h]
    rfl
  rw [List.getElem?_map] at h1
  cases hw : (mW M o F)[k]? with
  | none => rw [hw] at h1; cases h1
  | some q' =>
    rw [hw] at h1
    have e : q'.1 = q := Option.some.inj h1
    exact ⟨k, q'.2, by rw [hw, ← e]⟩
theorem app_l {w1 w2 : va_W} {k : Nat} {q : Nat × va_E} (h : w1[k]? = some q) : (w1 ++ w2)[k]? = some q ∧ k < w1.length := by
  have hk := (List.getElem?_eq_some_iff.mp h).1
  exact ⟨by rw [List.getElem?_append_left hk]; exact h, hk⟩
theorem app_r {w1 w2 : va_W} {k : Nat} {q : Nat × va_E} (h : w2[k]? = some q) : (w1 ++ w2)[w1.length + k]? = some q := by
  rw [List.getElem?_append_right (Nat.le_add_right _ _), Nat.add_sub_cancel_left]
  exact h
theorem LWd.of {s : State} {G : cG} {M : mG} {S : cS} {o : Nat → Int32} {F : Nat → Nat → Int32} {H : Heap} {locs : List Loc} (hP : va_P (gD G) vwCl (cW G S ++ mW M o F) H) (hD : va_D (lA s) (cW G S ++ mW M o F)) (hC : CL S) (hS : va_S (lA s) s.heap H locs) (hG : mD M = gD G) : LWd s G M S o F H locs ∧ mDD M := by
  refine ⟨⟨fun k q h => hP k q (app_l h).1, ⟨fun i j p q hp hq e => hD.1 i j p q (app_l hp).1 (app_l hq).1 e, fun k q h => hD.2 k q (app_l h).1⟩, hC, fun k q h => ?_, fun q hq => ?_, hS⟩, ?_⟩
  · have h1 := hP _ q (app_r (w1 := cW G S) h)
    show va_at (mD M) vwCl q H
    rw [hG]
    exact h1
  · obtain ⟨k, e, h⟩ := hq.to o F
    have h1 := app_r (w1 := cW G S) h
    refine ⟨(hP _ _ h1).lt, hD.2 _ _ h1, fun z => ?_⟩
    obtain ⟨i, e2, h2⟩ := z
    obtain ⟨h3, h4⟩ := app_l (w2 := mW M o F) h2
    have := hD.1 _ _ _ _ h3 h1 rfl
    omega
  · refine va_D_adr (mW_adr M o (fun _ => 0) F (fun _ _ => 0)) ⟨fun i j p q hp hq e => ?_, fun _ _ _ => trivial⟩
    have := hD.1 _ _ _ _ (app_r (w1 := cW G S) hp) (app_r (w1 := cW G S) hq) e
    omega
theorem loop_gt {L i : Nat} (hL : L ≤ 3072) (hi : 6 * i ≤ L) : Int32.ofNat L - 6 < nI (6 * i) ↔ ¬ 6 * i + 6 ≤ L := by
  have e : (nI L - nI 6).toInt = (L : Int) - 6 := pk_sub_toInt (by omega) (by omega)
  have e2 : (Int32.ofNat L - 6 : Int32) = nI L - nI 6 := rfl
  rw [i_lt, e2, e, nI_toInt (by omega)]
  omega

theorem c00 {rf : Nat → Nat → Int32} (h : rf 6 0 = 0 ∧ rf 6 1 = 1 ∧ rf 7 0 = 0 ∧ rf 7 1 = 0 ∧ rf 16 0 = -9 ∧ rf 16 1 = -9) : rf 6 0 = 0 ∧ rf 6 1 = 1 ∧ rf 7 0 = 0 ∧ rf 7 1 = 0 := ⟨h.1, h.2.1, h.2.2.1, h.2.2.2.1⟩
theorem ty9_S00 {rh rq rn : Nat → Nat} {rf : Nat → Nat → Int32} {tq : Nat} (h : rf 6 0 = 0 ∧ rf 6 1 = 1 ∧ rf 7 0 = 0 ∧ rf 7 1 = 0 ∧ rf 16 0 = -9 ∧ rf 16 1 = -9) (hm : ∀ j, j < 300 → rf 26 j = -9) : TY9 (S00 rh rq rn rf tq) o00 (fun _ _ => 0) 0 := by
  obtain ⟨a0, a1, b0, b1, c0, c1⟩ := h
  have f6 : ∀ t, t < 2 → (kF (S00 rh rq rn rf tq) 6 t = 0 ∨ kF (S00 rh rq rn rf tq) 6 t = 1) ∧ kF (S00 rh rq rn rf tq) 7 t = 0 := fun t ht => by
    rcases (show t = 0 ∨ t = 1 by omega) with rfl | rfl
    · exact ⟨Or.inl a0, b0⟩
    · exact ⟨Or.inr a1, b1⟩
  have hY : TY (S00 rh rq rn rf tq) 2 0 0 0 0 0 := by
    refine ⟨⟨rfl, rfl, rfl, rfl, rfl, rfl, rfl, rfl, rfl, rfl, rfl, rfl⟩, ⟨by decide, by decide, Nat.le_refl _, by decide⟩, fun t ht h4 => ?_, fun t ht h3 => ?_, fun t ht => ?_⟩
    · rcases (f6 t ht).1 with z | z <;> rw [z] at h4 <;> exact absurd h4 (by decide)
    · rcases (f6 t ht).1 with z | z <;> rw [z] at h3 <;> exact absurd h3 (by decide)
    · refine Or.inr (Or.inr (Or.inr ?_))
      rw [(f6 t ht).2]
      exact Int32.le_refl _
  obtain ⟨kt, -⟩ := kt_start hY (show S0 (S00 rh rq rn rf tq) from ⟨⟨a0, a1⟩, ⟨b0, b1⟩, c0, c1⟩) (z0_zS 0)
  exact ⟨zS 0, 0, ⟨kt, ⟨rfl, rfl, fun j hj => Or.inl (hm j hj)⟩, rfl, ⟨rfl, rfl⟩, (wc_0 (z := zS 0) rfl).symm⟩, Nat.zero_le _, Or.inl ⟨z0_zS 0, rfl, rfl, rfl⟩⟩


