/-! ===== laws of contracts: a stronger start, a weaker end, more words, more room ===== -/
theorem cm_app {a b c : List Cond} (ha : ∀ w ∈ a, w ∈ c) (hb : ∀ w ∈ b, w ∈ c) : ∀ w ∈ a ++ b, w ∈ c := fun w h => (List.mem_append.mp h).elim (ha w) (hb w)
theorem cm_0 {c : List Cond} : ∀ w ∈ ([] : List Cond), w ∈ c := fun _ h => absurd h List.not_mem_nil
theorem room_mono {s : State} {pl : Platform} {r r' : Room} (hf : r.frames ≤ r'.frames) (hl : r.locals ≤ r'.locals) (hc : r.cells ≤ r'.cells) (hs : r.slots ≤ r'.slots) (h : s.hasRoom pl r' = true) : s.hasRoom pl r = true := by
  simp only [State.hasRoom, Bool.and_eq_true, decide_eq_true_eq] at h ⊢
  obtain ⟨⟨⟨⟨y, a, b, c, d, e⟩, f⟩, g⟩, i⟩ := h
  exact ⟨⟨⟨⟨by omega, by omega, by omega, by omega, by omega, e⟩, by omega⟩, by omega⟩, i⟩
theorem fe_mono {s t : State} {o : Outcome} {L : List Loc} {k n k' n' : Nat} (h : FrameEnd s o t L k n) (hk : k ≤ k') (hn : n ≤ n') : FrameEnd s o t L k' n' := by
  obtain ⟨h1, h2, a, b, c, d, e, f⟩ := h
  exact ⟨h1, h2, a, b, Nat.le_trans c (Nat.add_le_add_left hk _), d, Nat.le_trans e hn, f⟩
theorem Met.conv {l : Launch} {y : MethodName} {ws ws' : List Cond} {rm rm' : Room} {Pc Pc' : Array Value → State → Prop} {Qc Qc' : Array Value → State → Outcome → State → Prop} {mc ms mc' ms' : Nat} {free free' : Addr → Prop} (h : Met l y ws rm Pc Qc mc ms free)
    (hws : ∀ w ∈ ws, w ∈ ws') (hf : rm.frames ≤ rm'.frames) (hl : rm.locals ≤ rm'.locals) (hc : rm.cells ≤ rm'.cells) (hs : rm.slots ≤ rm'.slots) (hmc : mc ≤ mc') (hms : ms ≤ ms')
    (hP : ∀ a s, Pc' a s → Pc a s) (hQ : ∀ a s o t, Pc' a s → Qc a s o t → (∃ L, FrameEnd s o t L mc ms) → Qc' a s o t) (hfree : ∀ q, free q → free' q) : Met l y ws' rm' Pc' Qc' mc' ms' free' := by
  intro p e ha hcs hk s m args below hfr happ hPP hK
  obtain ⟨a1, a2, a3, a4, a5, a6, a7, a8⟩ := (Spec.appliesLoose_iff hfr).mp happ
  have h8 : (headSpec ws rm).pre.before args s = true := atoms_intro (fun w hw => atoms_spec (ws := ws') a8 w (hws w hw))
  obtain ⟨n, o, h1, h2, h3, hq, L, hF, hL⟩ := h p e ha hcs hk s m args below hfr ((Spec.appliesLoose_iff hfr).mpr ⟨a1, a2, a3, a4, a5, a6, room_mono hf hl hc hs a7, h8⟩) (hP _ _ hPP) trivial
  exact ⟨n, o, h1, h2, h3, hQ _ _ _ _ hPP hq ⟨L, hF⟩, L, fe_mono hF hmc hms, fun q hq => hfree _ (hL q hq)⟩
/-! ===== the class's world ===== -/
abbrev cG : Type := va_G × ClassId × ClassId × ClassId × (Nat → Nat)
abbrev gD (G : cG) : va_G := G.1
abbrev gI (G : cG) : ClassId := G.2.1
abbrev gB (G : cG) : ClassId := G.2.2.1
abbrev gR (G : cG) : ClassId := G.2.2.2.1
abbrev ga (G : cG) : Nat → Nat := G.2.2.2.2
/-- numbers of objects; contents of rows and of signs; sizes, places, arrays, rows by number, how many rows of bounds, whose signs -/
abbrev cS : Type := (Nat → Int32) × (Nat → Nat → Int32) × (Nat → Nat → Nat)
abbrev kF (S : cS) : Nat → Nat → Int32 := S.2.1
abbrev kK (S : cS) (r : Nat) : Nat := S.2.2 0 r
abbrev kN (S : cS) (r : Nat) : Nat := S.2.2 1 r
abbrev kQ (S : cS) (r : Nat) : Nat := S.2.2 2 r
abbrev kH (S : cS) (r : Nat) : Nat := S.2.2 3 r
abbrev kB (S : cS) : Nat := S.2.2 4 0
abbrev kT (S : cS) : Nat := S.2.2 4 1
def oPT (G : cG) (S : cS) : List Value := [.ref (ga G 1), .ref (ga G 4), .ref (ga G 5), .ref (ga G 6)]
def oTree (G : cG) (S : cS) : List Value := [.ref (kH S 0), .ref (kH S 1), .ref (kH S 2), .ref (kH S 3), .ref (kH S 4), .ref (kH S 5)]
def oTypes (G : cG) (S : cS) : List Value := [.ref (kH S 6), .ref (kH S 7), .ref (kH S 8), .ref (kH S 9), .ref (kH S 10), .ref (kH S 11), .ref (kH S 12), .ref (kH S 13), .ref (kH S 14), .ref (ga G 12), .ref (kH S 15), .ref (kH S 16), .ref (kH S 17), .ref (kH S 18)]
def oTeller (G : cG) (S : cS) : List Value := [.ref (ga G 2), .ref (kH S 19), .ref (kH S 20), .ref (kH S 21), .ref (kH S 22), .ref (kT S)]
def oTyping (G : cG) (S : cS) : List Value := [.ref (ga G 1), .ref (ga G 2), .ref (ga G 3), .ref (ga G 7), .ref (kH S 23), .ref (kH S 24), .ref (kH S 25), .ref (kH S 26), .int (S.1 8), .int (S.1 9), .int (S.1 10), .int (S.1 11), .int (S.1 12), .int (S.1 13), .int (S.1 14)]
def oWorking (G : cG) (S : cS) : List Value := [.ref (ga G 1), .ref (ga G 8), .ref (kH S 27), .ref (kH S 28), .ref (kH S 29), .ref (kH S 30), .ref (kH S 31), .ref (kH S 32), .ref (kH S 33), .ref (kH S 34), .int (S.1 110), .int (S.1 111), .int (S.1 112), .int (S.1 113)]
def oSg0 (G : cG) (S : cS) : List Value := [.ref (ga G 9), .int (S.1 200)]
def oSg1 (G : cG) (S : cS) : List Value := [.ref (ga G 10), .int (S.1 201)]
def oSg2 (G : cG) (S : cS) : List Value := [.ref (ga G 11), .int (S.1 202)]
def cE (G : cG) (S : cS) : Nat → Nat × va_E
  | 0 => (ga G 0, .inr (7, oPT G S))
  | 1 => (ga G 1, .inr (3, oTree G S))
  | 2 => (ga G 2, .inr (4, oTypes G S))
  | 3 => (ga G 3, .inr (2, oTeller G S))
  | 4 => (ga G 4, .inr (5, oTyping G S))
  | 5 => (ga G 5, .inr (6, oWorking G S))
  | 6 => (ga G 6, .inr (1, oSg0 G S))
  | 7 => (ga G 7, .inr (1, oSg1 G S))
  | 8 => (ga G 8, .inr (1, oSg2 G S))
  | 9 => (ga G 9, .inl (gB G, 400, .inl (kF S 400)))
  | 10 => (ga G 10, .inl (gB G, 400, .inl (kF S 401)))
  | 11 => (ga G 11, .inl (gB G, 200, .inl (kF S 402)))
  | 12 => (ga G 12, .inl (gR G, 300, .inr (.inr (.inr (.inr (fun j => if j < kB S then some (kH S (35 + j)) else none))))))
  | k + 13 => if k % 2 = 0 then (kH S (k / 2), .inr (0, [.ref (kQ S (k / 2)), .int (nI (kK S (k / 2)))])) else (kQ S (k / 2), .inl (gI G, kN S (k / 2), .inl (kF S (k / 2))))
def cW (G : cG) (S : cS) : va_W := (List.range (83 + 2 * kB S)).map (cE G S)
theorem cW_at {G : cG} {S : cS} {k : Nat} (h : k < 83 + 2 * kB S) : (cW G S)[k]? = some (cE G S k) := by
  unfold cW
  rw [List.getElem?_map, List.getElem?_range h]
  rfl
theorem cW_of {G : cG} {S : cS} {k : Nat} {q : Nat × va_E} (h : (cW G S)[k]? = some q) : k < 83 + 2 * kB S ∧ q = cE G S k := by
  rcases Nat.lt_or_ge k (83 + 2 * kB S) with h1 | h1
  · rw [cW_at h1] at h
    exact ⟨h1, (Option.some.inj h).symm⟩
  · unfold cW at h
    rw [List.getElem?_map, List.getElem?_eq_none (by simpa using h1)] at h
    cases h
theorem cE_row {G : cG} {S : cS} (r : Nat) : cE G S (2 * r + 13) = (kH S r, .inr (0, [.ref (kQ S r), .int (nI (kK S r))])) := by
  show (if 2 * r % 2 = 0 then _ else _) = _
  rw [if_pos (by omega), show 2 * r / 2 = r by omega]
theorem cE_arr {G : cG} {S : cS} (r : Nat) : cE G S (2 * r + 1 + 13) = (kQ S r, .inl (gI G, kN S r, .inl (kF S r))) := by
  show (if (2 * r + 1) % 2 = 0 then _ else _) = _
  rw [if_neg (by omega), show (2 * r + 1) / 2 = r by omega]
theorem cw_row {G : cG} {S : cS} {r : Nat} (h : r < 35 + kB S) : (cW G S)[2 * r + 13]? = some (kH S r, .inr (0, [.ref (kQ S r), .int (nI (kK S r))])) := by
  rw [cW_at (by omega), cE_row]
theorem cw_arr {G : cG} {S : cS} {r : Nat} (h : r < 35 + kB S) : (cW G S)[2 * r + 1 + 13]? = some (kQ S r, .inl (gI G, kN S r, .inl (kF S r))) := by
  rw [cW_at (by omega), cE_arr]
theorem cw_0 {G : cG} {S : cS} : (cW G S)[0]? = some (ga G 0, .inr (7, oPT G S)) := cW_at (by omega)
theorem cw_1 {G : cG} {S : cS} : (cW G S)[1]? = some (ga G 1, .inr (3, oTree G S)) := cW_at (by omega)
theorem cw_2 {G : cG} {S : cS} : (cW G S)[2]? = some (ga G 2, .inr (4, oTypes G S)) := cW_at (by omega)
theorem cw_3 {G : cG} {S : cS} : (cW G S)[3]? = some (ga G 3, .inr (2, oTeller G S)) := cW_at (by omega)
theorem cw_4 {G : cG} {S : cS} : (cW G S)[4]? = some (ga G 4, .inr (5, oTyping G S)) := cW_at (by omega)
theorem cw_5 {G : cG} {S : cS} : (cW G S)[5]? = some (ga G 5, .inr (6, oWorking G S)) := cW_at (by omega)
theorem cw_6 {G : cG} {S : cS} : (cW G S)[6]? = some (ga G 6, .inr (1, oSg0 G S)) := cW_at (by omega)
theorem cw_7 {G : cG} {S : cS} : (cW G S)[7]? = some (ga G 7, .inr (1, oSg1 G S)) := cW_at (by omega)
theorem cw_8 {G : cG} {S : cS} : (cW G S)[8]? = some (ga G 8, .inr (1, oSg2 G S)) := cW_at (by omega)
theorem cw_9 {G : cG} {S : cS} : (cW G S)[9]? = some (ga G 9, .inl (gB G, 400, .inl (kF S 400))) := cW_at (by omega)
theorem cw_10 {G : cG} {S : cS} : (cW G S)[10]? = some (ga G 10, .inl (gB G, 400, .inl (kF S 401))) := cW_at (by omega)
theorem cw_11 {G : cG} {S : cS} : (cW G S)[11]? = some (ga G 11, .inl (gB G, 200, .inl (kF S 402))) := cW_at (by omega)
theorem cw_12 {G : cG} {S : cS} : (cW G S)[12]? = some (ga G 12, .inl (gR G, 300, .inr (.inr (.inr (.inr (fun j => if j < kB S then some (kH S (35 + j)) else none)))))) := cW_at (by omega)
def cTy (G : cG) : List (ClassId × FieldType) := [(gI G, .int), (gB G, .byte), (gR G, .object RX0)]
def cP (G : cG) (S : cS) (H : Heap) : Prop := va_P (gD G) vwCl (cW G S) H
def cK (G : cG) (U : State) : Prop := va_K (gD G) vwCl (cTy G) U
def cA (G : cG) (S : cS) (sz : Nat) : Nat → Prop := va_A (cW G S) sz
def cD (A : Nat → Prop) (G : cG) (S : cS) : Prop := va_D A (cW G S)
/-- how long a row may get -/
def lim (r : Nat) : Nat := if r < 4 then 120 else if r < 6 then 720 else if r < 10 then 602 else if r < 12 then 3700 else if r < 14 then 1000 else if r < 15 then 150 else if r < 16 then 4 else if r < 17 then 602 else if r < 19 then 1501 else if r < 22 then 500 else if r < 23 then 300 else if r < 25 then 120 else if r < 27 then 300 else if r < 30 then 301 else if r < 31 then 1900 else if r < 35 then 301 else 1700
/-- what has been made so far, by the rows' places -/
def PT (S : cS) : Nat := ((List.range (35 + kB S)).map (fun r => kN S r / 4 + 1)).sum
def CC : Nat := 270000
def CL (S : cS) : Prop := kB S ≤ 300 ∧ ∀ r, r < 35 + kB S → kK S r ≤ kN S r ∧ kN S r ≤ 2 * lim r + 4 ∧ kK S r ≤ lim r
def HS (S u : cS) : Prop := kB S ≤ kB u ∧ ∀ r, r < 35 + kB S → kH u r = kH S r
theorem HS.rf {S : cS} : HS S S := ⟨Nat.le_refl _, fun _ _ => rfl⟩
theorem HS.tr {S u w : cS} (h : HS S u) (h' : HS u w) : HS S w := ⟨Nat.le_trans h.1 h'.1, fun r hr => (h'.2 r (by have := h.1; omega)).trans (h.2 r hr)⟩
theorem sum_le {f g : Nat → Nat} : ∀ l : List Nat, (∀ x ∈ l, f x ≤ g x) → (l.map f).sum ≤ (l.map g).sum
  | [], _ => Nat.le_refl _
  | x :: l, h => by
    simp only [List.map_cons, List.sum_cons]
    have := sum_le l (fun y hy => h y (List.mem_cons_of_mem _ hy))
    have := h x List.mem_cons_self
    omega
theorem range_le {f : Nat → Nat} {a b : Nat} (h : a ≤ b) : ((List.range a).map f).sum ≤ ((List.range b).map f).sum := by
  obtain ⟨c, rfl⟩ : ∃ c, b = a + c := ⟨b - a, by omega⟩
  rw [List.range_add, List.map_append, List.sum_append]
  omega
theorem lim_sum : ((List.range 335).map (fun r => (2 * lim r + 4) / 4 + 1)).sum ≤ CC := by decide +kernel
theorem CL.pp {S : cS} (h : CL S) : PT S ≤ CC := by
  refine Nat.le_trans (sum_le _ (fun r hr => ?_)) (Nat.le_trans (range_le (f := fun r => (2 * lim r + 4) / 4 + 1) (show 35 + kB S ≤ 335 by have := h.1; omega)) lim_sum)
  have := (h.2 r (List.mem_range.mp hr)).2.1
  show kN S r / 4 + 1 ≤ (2 * lim r + 4) / 4 + 1
  omega
theorem lim_ite {p : Prop} [Decidable p] {a b c : Nat} (ha : a ≤ c) (hb : b ≤ c) : (if p then a else b) ≤ c := by
  by_cases h : p
  · rw [if_pos h]
    exact ha
  · rw [if_neg h]
    exact hb
theorem lim_le (r : Nat) : lim r ≤ 3700 := (lim_ite (Nat.le_of_ble_eq_true rfl) (lim_ite (Nat.le_of_ble_eq_true rfl) (lim_ite (Nat.le_of_ble_eq_true rfl) (lim_ite (Nat.le_of_ble_eq_true rfl) (lim_ite (Nat.le_of_ble_eq_true rfl) (lim_ite (Nat.le_of_ble_eq_true rfl) (lim_ite (Nat.le_of_ble_eq_true rfl) (lim_ite (Nat.le_of_ble_eq_true rfl) (lim_ite (Nat.le_of_ble_eq_true rfl) (lim_ite (Nat.le_of_ble_eq_true rfl) (lim_ite (Nat.le_of_ble_eq_true rfl) (lim_ite (Nat.le_of_ble_eq_true rfl) (lim_ite (Nat.le_of_ble_eq_true rfl) (lim_ite (Nat.le_of_ble_eq_true rfl) (lim_ite (Nat.le_of_ble_eq_true rfl) (lim_ite (Nat.le_of_ble_eq_true rfl) (Nat.le_of_ble_eq_true rfl)))))))))))))))))
/-- a sum in which one number has changed -/
theorem sum_upd {f g : Nat → Nat} {r : Nat} : ∀ n, r < n → (∀ x, x ≠ r → g x = f x) → ((List.range n).map g).sum + f r = ((List.range n).map f).sum + g r
  | 0, h, _ => by omega
  | n + 1, h, hx => by
    rw [List.range_succ, List.map_append, List.map_append, List.sum_append, List.sum_append]
    simp only [List.map_cons, List.map_nil, List.sum_cons, List.sum_nil, Nat.add_zero]
    rcases Nat.lt_or_ge r n with h1 | h1
    · have := sum_upd n h1 hx
      have e := hx n (by omega)
      omega
    · obtain rfl : r = n := by omega
      have e : (List.range r).map g = (List.range r).map f := List.map_congr_left (fun x hx2 => hx x (by have := List.mem_range.mp hx2; omega))
      rw [e]
      omega
/-- what a method of the class finds, and leaves -/
def cPc (G : cG) (S : cS) (Hs : Heap) (av : List Value) : Array Value → State → Prop := va_Pc av (fun U => U.heap = Hs ∧ cP G S Hs ∧ cK G U ∧ cD (fun _ => True) G S ∧ CL S)
def cB (G : cG) (S : cS) (Hs : Heap) (u : cS) (t : State) : Prop := cP G u t.heap ∧ cK G t ∧ cD (cA G S Hs.size) G u ∧ Gr Hs t.heap (PT u - PT S) (12 * (PT u - PT S)) ∧ PT S ≤ PT u ∧ CL u ∧ HS S u
def cQi (G : cG) (S : cS) (Hs : Heap) (post : Int32 → cS → Prop) : Array Value → State → Outcome → State → Prop := va_Qi post (cB G S Hs) (cA G S Hs.size)
def cQl (G : cG) (S : cS) (Hs : Heap) (post : Int64 → cS → Prop) : Array Value → State → Outcome → State → Prop := va_Ql post (cB G S Hs) (cA G S Hs.size)
def cQv (G : cG) (S : cS) (Hs : Heap) (post : cS → Prop) : Array Value → State → Outcome → State → Prop := va_Qv post (cB G S Hs) (cA G S Hs.size)
def cQr (G : cG) (S : cS) (Hs : Heap) (post : Nat → cS → Prop) : Array Value → State → Outcome → State → Prop := va_Qr (fun _ => True) (fun u a t => cB G S Hs u t ∧ post a u) (cA G S Hs.size)
abbrev cRm (S : cS) (f lo : Nat) : Room := { frames := f, cells := CC - PT S, slots := 12 * (CC - PT S), locals := lo }
theorem cA_in {G : cG} {S S1 : cS} {H0 H : Heap} {locs : List Loc} (hD : cD (cA G S H0.size) G S1) (hS : va_S (cA G S H0.size) H0 H locs) : ∀ q, cA G S1 H.size q → cA G S H0.size q := by
  rintro q (⟨k, e, h⟩ | h)
  · exact hD.2 k (q, e) h
  · exact Or.inr (Nat.le_trans hS.1 h)
theorem cD_in {A B : Nat → Prop} {G : cG} {S : cS} (h : cD A G S) (hAB : ∀ q, A q → B q) : cD B G S := ⟨h.1, fun k q hk => hAB _ (h.2 k q hk)⟩
theorem cD_self {A : Nat → Prop} {G : cG} {S : cS} {sz : Nat} (h : cD A G S) : cD (cA G S sz) G S := ⟨h.1, fun k q hk => Or.inl ⟨k, q.2, hk⟩⟩
