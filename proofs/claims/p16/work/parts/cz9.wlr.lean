/-! ===== what holds at the head of the law's loop, with the latest VALUE ===== -/


def TRp (tr : aM) (N : Nat) : Prop := ∀ n, n < N → prts (tr 0 n) (tr 2 n) = tr 2 n
theorem TRp.kq {tr : aM} {N : Nat} {F F' : Nat → Nat → Int32} (h : TRp tr N) (e : ∀ k, k < 7 → F' k = F k) : TRp tr N := h
theorem TRp.node {tr : aM} {N k v : Nat} {qs : List Nat} {o' : Nat → Int32} {F F' : Nat → Nat → Int32} {x vm : Int32} (h : TRp tr N) (hI : RI (trN tr N k v qs) (N + 1) o' F') (hF : NodeF F F' N x vm qs) (hp : p_parts x = nI qs.length) : TRp (trN tr N k v qs) (N + 1) := by
  intro n hn
  by_cases e : n = N
  · subst e
    obtain ⟨t1, t2, t3, t4, t5, -⟩ := hI.1.2.2 n (Nat.lt_succ_self _)
    have k2 : trN tr n k v qs 2 n = qs.length := by
      unfold trN
      rw [if_pos rfl]
      rfl
    rw [k2] at t5 ⊢
    have hx : x = nI (trN tr n k v qs 0 n) := by
      rw [← t1, hF.1]
      exact upd_s.symm
    generalize trN tr n k v qs 0 n = j at hx t2 ⊢
    subst hx
    have gen : ∀ c, c ≤ 6 → p_parts (nI j) = nI c → qs.length = c := fun c hc e => (nI_eq (by omega) (by omega)).mp (hp.symm.trans e)
    rcases (show j = 0 ∨ j = 1 ∨ j = 2 ∨ j = 3 ∨ j = 4 ∨ j = 5 ∨ j = 6 ∨ j = 7 ∨ j = 8 ∨ j = 9 ∨ j = 10 ∨ j = 11 by omega) with rfl | rfl | rfl | rfl | rfl | rfl | rfl | rfl | rfl | rfl | rfl | rfl
    · rw [gen 0 (by decide) (by decide +kernel)]; rfl
    · rw [gen 0 (by decide) (by decide +kernel)]; rfl
    · rw [gen 0 (by decide) (by decide +kernel)]; rfl
    · rw [gen 1 (by decide) (by decide +kernel)]; rfl
    · rw [gen 2 (by decide) (by decide +kernel)]; rfl
    · rw [gen 0 (by decide) (by decide +kernel)]; rfl
    · rw [gen 1 (by decide) (by decide +kernel)]; rfl
    · rw [gen 2 (by decide) (by decide +kernel)]; rfl
    · rw [gen 2 (by decide) (by decide +kernel)]; rfl
    · rw [gen 3 (by decide) (by decide +kernel)]; rfl
    · rw [gen 2 (by decide) (by decide +kernel)]; rfl
    · rw [gen 2 (by decide) (by decide +kernel)]; rfl
  · rw [trN_o e (by decide), trN_o e (by decide)]
    exact h n (by omega)
theorem TRp.field {tr : aM} {N q p9 y9 c : Nat} (h : TRp tr N) (h5 : tr 0 q = 5) : TRp (trF tr q p9 y9 c) N := by
  intro n hn
  rw [trF_o (g := 0) (by omega) (by omega), trF_2]
  by_cases e : n = q
  · rw [if_pos e, e, h5]
    rfl
  · rw [if_neg e]
    exact h n hn
def WV9 (S : cS) (tr : aM) (N : Nat) (o : Nat → Int32) (F : Nat → Nat → Int32) : Prop := S.1 113 = o 61 ∧ (o 61 = 0 → ∃ (tr0 : aM) (N0 : Nat) (dp0 : Nat → Nat) (a : wmS) (φ : Nat → Nat) (v0 : Nat), VR9 F (o 66) tr0 N0 dp0 a φ v0 ∧ N0 ≤ N ∧ (∀ q, q < N0 → tr0 0 q = 5 → tr0 2 q ≤ tr 2 q) ∧ SG S 402 (wmt tr0 a 200 v0 []))
theorem WV9.keep {rs is : List Nat} {S u : cS} {tr tr' : aM} {N N' : Nat} {o o' : Nat → Int32} {F F' : Nat → Nat → Int32} (h : WV9 S tr N o F) (a : AW rs is S u) (hi : 113 ∉ is ∧ 202 ∉ is) (w : W4 o F (o', F')) (e5 : ∀ n, n < N → ∀ i, i < tr 2 n → F' 5 (6 * n + i) = F 5 (6 * n + i)) (hN : N ≤ N') (h2 : ∀ q, q < N → tr 2 q ≤ tr' 2 q) : WV9 u tr' N' o' F' := by
  obtain ⟨⟨w1, w2⟩, w3, w4, w5, w6⟩ := w
  have w1 : o' 61 = o 61 := w1
  have w2 : o' 66 = o 66 := w2
  refine ⟨((a.1 113 hi.1).trans h.1).trans w1.symm, fun z => ?_⟩
  obtain ⟨tr0, N0, dp0, a9, φ, v0, ⟨v1, v2, v3, v4, v5, v6, v7⟩, n1, n2, sg⟩ := h.2 (w1.symm.trans z)
  refine ⟨tr0, N0, dp0, a9, φ, v0, ⟨fun v hv => ⟨(v1 v hv).1, (v1 v hv).2.keep (v2.1 v hv) v4 Xt.rf hv (fun _ _ => rfl) (congrFun w3 _) (congrFun w4 _) (congrFun w5 _) (fun i _ => congrFun w6 _)⟩, v2, v3, v4, fun n hn h5 => ⟨(v5 n hn h5).1, fun i hi9 => ?_⟩, v6, w2.trans v7⟩, by omega, fun q hq h5 => ?_, sg.aw a (by decide) (by decide) hi.2⟩
  · obtain ⟨g1, g2⟩ := (v5 n hn h5).2 i hi9
    have := n2 n hn h5
    exact ⟨(e5 n (by omega) i (by omega)).trans g1, g2⟩
  · have := n2 q hq h5
    have := h2 q (by omega)
    omega
theorem WV9.kq {rs is : List Nat} {S u : cS} {tr : aM} {N : Nat} {o o' : Nat → Int32} {F F' : Nat → Nat → Int32} (h : WV9 S tr N o F) (a : AW rs is S u) (hi : 113 ∉ is ∧ 202 ∉ is) (w : W4 o F (o', F')) (e7 : ∀ k, k < 7 → F' k = F k) : WV9 u tr N o' F' :=
  h.keep a hi w (fun n _ i _ => congrFun (e7 5 (by decide)) _) (Nat.le_refl _) (fun _ _ => Nat.le_refl _)
def LR (S : cS) (tr : aM) (N : Nat) (o : Nat → Int32) (F : Nat → Nat → Int32) : Prop := CI S N ∧ RI tr N o F ∧ TEq S F N ∧ TRp tr N ∧ WV9 S tr N o F
