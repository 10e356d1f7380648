theorem rg_aw {rs is : List Nat} {S u : cS} {r : Nat} {x a : Int32} (w : AW rs is S u) (hr : r < 35) (hn : min r 35 ∉ rs) (h : rget (kF S r) (kK S r) x = a) : rget (kF u r) (kK u r) x = a := by
  obtain ⟨e1, e2⟩ := w.2.1 r (lt35 hr) hn
  rw [e1, e2]
  exact h
theorem KT.ek {S : cS} {z : aS} {t k : Nat} (h : KT S z) (ht : t < nT z) (hk : k ≤ 4) {x : Int32} (hx : x = nI k) (e : nI (ks z t) = x) : ks z t = k := by
  have h4 := h.ks4 ht
  exact (nI_eq (by omega) (by omega)).mp (e.trans hx)
theorem KT.kw {S : cS} {z : aS} {t : Nat} (h : KT S z) (ht : t < nT z) (e : nI (ks z t) = 0) : srt z t = 0 ∧ t = 0 := by
  have e := h.ek ht (k := 0) (by decide) rfl e
  rcases ks_or h ht with ⟨a, b, c⟩ | ⟨a, b, c⟩
  · exact ⟨a, by omega⟩
  · omega
theorem KT.kt {S : cS} {z : aS} {t : Nat} (h : KT S z) (ht : t < nT z) (e : nI (ks z t) = 1) : srt z t = 0 ∧ ¬ t = 0 := by
  have e := h.ek ht (k := 1) (by decide) rfl e
  rcases ks_or h ht with ⟨a, b, c⟩ | ⟨a, b, c⟩
  · exact ⟨a, by omega⟩
  · omega
theorem KT.kv {S : cS} {z : aS} {t : Nat} (h : KT S z) (ht : t < nT z) (n0 : ¬ nI (ks z t) = 0) (n1 : ¬ nI (ks z t) = 1) (n2 : ¬ nI (ks z t) = 2) (n3 : ¬ nI (ks z t) = 3) : srt z t = 3 := by
  have k0 : ks z t ≠ 0 := fun e => n0 (by rw [e]; rfl)
  have k1 : ks z t ≠ 1 := fun e => n1 (by rw [e]; rfl)
  have k2 : ks z t ≠ 2 := fun e => n2 (by rw [e]; rfl)
  have k3 : ks z t ≠ 3 := fun e => n3 (by rw [e]; rfl)
  have h4 := h.ks4 ht
  rcases ks_or h ht with ⟨a, b, c⟩ | ⟨a, b, c⟩
  · omega
  · omega
theorem KT.e3 {S : cS} {z : aS} {t : Nat} (h : KT S z) (ht : t < nT z) : ks z t = 4 ↔ srt z t = 3 := by
  rcases ks_or h ht with ⟨a, b, c⟩ | ⟨a, b, c⟩
  · omega
  · omega
theorem KT.k2le {S : cS} {z : aS} {t : Nat} (h : KT S z) (ht : t < nT z) (hn : srt z t ≠ 0) : 2 ≤ ks z t := by
  rcases ks_or h ht with ⟨a, b, c⟩ | ⟨a, b, c⟩
  · exact absurd a hn
  · omega
theorem KT.rlen {S : cS} {z : aS} {t y : Nat} (h : KT S z) (hC : CL S) (ht : t < nT z) (h3 : srt z t = 3) (hy : y < 2) : (row z y t).length < 5000 := by
  obtain ⟨g1, g2, g3⟩ := h.f3 ht h3
  have hB := h.1.2.2.2.2.2.2.2.2.2.2
  rw [← (h.bn ht h3 hy).1]
  exact kK_lt hC (by omega)
theorem KT.bd {S : cS} {z : aS} {t y p : Nat} (h : KT S z) (hC : CL S) (ht : t < nT z) (hn : srt z t ≠ 0) (hy : y < 2) : bd9 z (t, y, p) < 5000 := by
  have h3 := (h.s3 ht).1
  rcases (by omega : srt z t = 1 ∨ srt z t = 2 ∨ srt z t = 3) with e | e | e
  · rw [bd_1 e]
    decide
  · rw [bd_2 e]
    have := (h.cnt ht e).2.2
    omega
  · rw [bd_3 e]
    exact h.rlen hC ht e hy
theorem tln_s {v : Nat} {L : List Int32} (h : L.length < 400) : L.length < (tln v L).length := by
  have a := lpq1 (b := b8 39) h
  have b := (lp400 (b := b8 39) h).1
  have c := (lputs_len (cap := 400) (figs (nI v)) _ b).2
  unfold tln
  omega
theorem lp_s {L : List Int32} {b : Int32} (h : L.length < 400) : L.length < (lput 400 L b).length := by
  rw [lpq1 h]
  exact Nat.lt_succ_self _

