/-! ===== the class's Teller ===== -/
def W20 (S : cS) (O : Nat) : Prop := ∀ j, j < O → ∃ w, w < 2 ∧ kF S 20 j = nI w
theorem W20.aw {rs is : List Nat} {S u : cS} {O : Nat} (h : W20 S O) (a : AW rs is S u) (hr : 20 ∉ rs) : W20 u O := fun j hj => by
  rw [(a.2.1 20 (lt35 (by decide)) hr).1]
  exact h j hj
theorem W20.get {S : cS} {O j : Nat} (h : W20 S O) (hK : kK S 20 = O) (hj : j < O) (hO : O ≤ 500) : ∃ w, w < 2 ∧ rget (kF S 20) (kK S 20) (nI j) = nI w := by
  rw [rget_at (by omega) (by omega)]
  exact h j hj
theorem W20.push {S u : cS} {O n q wy : Nat} {g : Nat → Int32} (h : W20 S O) (hK : kK S 20 = O) (hu : u = uR S 20 (kK S 20 + 1) n q g) (h1 : ∀ j, j < kK S 20 → g j = kF S 20 j) (h2 : g (kK S 20) = nI wy) (hw : wy < 2) : W20 u (O + 1) := fun j hj => by
  obtain ⟨a, b⟩ := ad_F hu h1 h2
  rcases Nat.lt_or_ge j O with e | e
  · rw [a j (by omega)]
    exact h j e
  · have : j = kK S 20 := by omega
    rw [this, b]
    exact ⟨wy, hw, rfl⟩
def TK (S : cS) (k O sm : Nat) : Prop := (kK S 19 = O ∧ kK S 20 = O ∧ kK S 21 = O) ∧ S.1 k = nI sm ∧ sm ≤ 400 ∧ O ≤ sm ∧ W20 S O
theorem TK.sg {rs is : List Nat} {S u : cS} {k O sm sn : Nat} (h : TK S k O sn) (a : AW rs is S u) (hr : ∀ r ∈ [19, 20, 21], r ∉ rs) (hs : u.1 k = nI sm) (h1 : sn ≤ sm) (h2 : sm ≤ 400) : TK u k O sm := by
  obtain ⟨⟨h19, h20, h21⟩, hn, hc, ho, hw⟩ := h
  exact ⟨⟨(a.2.1 19 (lt35 (by decide)) (hr 19 (by decide))).2.trans h19, (a.2.1 20 (lt35 (by decide)) (hr 20 (by decide))).2.trans h20, (a.2.1 21 (lt35 (by decide)) (hr 21 (by decide))).2.trans h21⟩, hs, h2, Nat.le_trans ho h1, hw.aw a (hr 20 (by decide))⟩
theorem TK.set {S u : cS} {k O sn n q : Nat} {f : Nat → Int32} (h : TK S k O sn) (hu : u = uR S 21 (kK S 21) n q f) : TK u k O sn := by
  have a : AW [21] [] S u := by rw [hu]; exact AW.u (by decide)
  obtain ⟨⟨h19, h20, h21⟩, hn, hc, ho, hw⟩ := h
  exact ⟨⟨(a.2.1 19 (lt35 (by decide)) (by decide)).2.trans h19, (a.2.1 20 (lt35 (by decide)) (by decide)).2.trans h20, by rw [hu]; exact uR_K.trans h21⟩, (a.1 k (by simp)).trans hn, hc, ho, hw.aw a (by decide)⟩
theorem tg_dec {sn m O O1 : Nat} (h0 : sn < m) (hm : m ≤ 400) (h3 : O1 ≤ O + 1 + 1) : 2 * (400 - m) + O1 < 2 * (400 - sn) + (O + 1) := by omega
theorem tg_cl {sn m O : Nat} (h : sn ≤ m) : 2 * (400 - m) + O < 2 * (400 - sn) + (O + 1) := by omega
theorem tb_1 {O sn : Nat} (ho : O ≤ sn) (hsp : sn < 400 ∨ O < sn) (hc : sn ≤ 400) : O < 400 := by omega
theorem tb_2 {O sn sm : Nat} (ho : O ≤ sn) (hsp : sn < 400 ∨ O < sn) (h2 : sn ≤ sm) (h4 : sn < 400 → sn < sm) : O + 1 ≤ sm := by omega
theorem tb_3 {S : cS} {r O : Nat} (hk : kK S r = O) (h : O < 400) (hb : lim r = 500) : kK S r < lim r := by omega
def TG (u : cS) (k O sn : Nat) : Prop := ∃ O1 sm, TK u k O1 sm ∧ sn ≤ sm ∧ O1 ≤ O + 1 ∧ (sn < 400 → sn < sm)

