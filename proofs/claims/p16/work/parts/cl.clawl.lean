/-! ===== the second program's methods, as the law needs them: what holds between calls stays, the tree stays ===== -/
theorem RI.same {tr : aM} {N : Nat} {o : Nat → Int32} {F : Nat → Nat → Int32} {u : mS} (hI : RI tr N o F) (h : u = (o, F)) : RI tr N u.1 u.2 ∧ ∀ k, k < 7 → u.2 k = F k := by
  subst h
  exact ⟨hI, fun _ _ => rfl⟩
/-- the latest work()'s VALUE stays -/
def W3 (o o' : Nat → Int32) : Prop := o' 61 = o 61 ∧ o' 66 = o 66
def W4 (o : Nat → Int32) (F : Nat → Nat → Int32) (u : mS) : Prop := W3 o u.1 ∧ u.2 52 = F 52 ∧ u.2 53 = F 53 ∧ u.2 54 = F 54 ∧ u.2 55 = F 55
theorem RI.same3 {tr : aM} {N : Nat} {o : Nat → Int32} {F : Nat → Nat → Int32} {u : mS} (hI : RI tr N o F) (h : u = (o, F)) : (RI tr N u.1 u.2 ∧ ∀ k, k < 7 → u.2 k = F k) ∧ W4 o F u := by
  refine ⟨hI.same h, ?_⟩
  subst h
  exact ⟨⟨rfl, rfl⟩, rfl, rfl, rfl, rfl⟩
theorem RI.tell3 {tr : aM} {N : Nat} {o : Nat → Int32} {F : Nat → Nat → Int32} {u : mS} (h : RI tr N o F) (hK : Kq LTa o F u) : (RI tr N u.1 u.2 ∧ ∀ k, k < 7 → u.2 k = F k) ∧ W4 o F u := ⟨h.tell hK, ⟨(hK 61 (by decide)).1, (hK 66 (by decide)).1⟩, (hK 52 (by decide)).2, (hK 53 (by decide)).2, (hK 54 (by decide)).2, (hK 55 (by decide)).2⟩
theorem RI.type3 {tr : aM} {N : Nat} {o : Nat → Int32} {F : Nat → Nat → Int32} {u : mS} {z : aS} {t : Nat} (h : RI tr N o F) (hM : ∃ ix, MR z ix u.1 u.2) (h22 : u.1 22 = (if sto z = 0 then 1 else 0)) (h23 : sto z = 0 → u.1 23 = nI t ∧ t < nT z) (hk : ∀ k, k < 7 ∨ 45 < k → u.1 k = o k ∧ u.2 k = F k) : (RI tr N u.1 u.2 ∧ ∀ k, k < 7 → u.2 k = F k) ∧ W4 o F u := ⟨h.type hM h22 h23 hk, ⟨(hk 61 (by decide)).1, (hk 66 (by decide)).1⟩, (hk 52 (by decide)).2, (hk 53 (by decide)).2, (hk 54 (by decide)).2, (hk 55 (by decide)).2⟩
section W3s
variable {o : Nat → Int32} {F F0 F' : Nat → Nat → Int32} {r a1 a2 a3 : Int32} {N : Nat} {u : mS} {P Q P1 A B C D : Prop} {y : Int32}
theorem w3_eq (h : u = (o, F)) : W3 o u.1 := by
  subst h
  exact ⟨rfl, rfl⟩
theorem w3_up (h : u = (upd o 0 y, F')) : W3 o u.1 := by
  subst h
  exact ⟨rfl, rfl⟩
theorem w3_0 (h : (r = -1 ∧ u = (o, F) ∧ P) ∨ (P1 ∧ Q ∧ ((A ∧ B ∧ u = (o, F)) ∨ (C ∧ D ∧ u = (upd o 0 y, F'))))) : W3 o u.1 := by
  rcases h with ⟨-, h, -⟩ | ⟨-, -, ⟨-, -, h⟩ | ⟨-, -, h⟩⟩
  · exact w3_eq h
  · exact w3_eq h
  · exact w3_up h
theorem w3_1 {Fq : Nat → Nat → Nat → Int32} (h : (r = -1 ∧ u = (o, F) ∧ P) ∨ (P1 ∧ Q ∧ ((A ∧ B ∧ u = (o, F)) ∨ (C ∧ D ∧ ∃ qa, qa < N ∧ a1 = nI qa ∧ u = (upd o 0 y, Fq qa))))) : W3 o u.1 := by
  rcases h with ⟨-, h, -⟩ | ⟨-, -, ⟨-, -, h⟩ | ⟨-, -, qa, -, -, h⟩⟩
  · exact w3_eq h
  · exact w3_eq h
  · exact w3_up h
theorem w3_2 {Fq : Nat → Nat → Nat → Nat → Int32} (h : (r = -1 ∧ u = (o, F) ∧ P) ∨ (P1 ∧ Q ∧ ((A ∧ B ∧ u = (o, F)) ∨ (C ∧ D ∧ ∃ qa, qa < N ∧ a1 = nI qa ∧ ∃ qb, qb < N ∧ a2 = nI qb ∧ u = (upd o 0 y, Fq qa qb))))) : W3 o u.1 := by
  rcases h with ⟨-, h, -⟩ | ⟨-, -, ⟨-, -, h⟩ | ⟨-, -, qa, -, -, qb, -, -, h⟩⟩
  · exact w3_eq h
  · exact w3_eq h
  · exact w3_up h
theorem w3_3 {Fq : Nat → Nat → Nat → Nat → Nat → Int32} (h : (r = -1 ∧ u = (o, F) ∧ P) ∨ (P1 ∧ Q ∧ ((A ∧ B ∧ u = (o, F)) ∨ (C ∧ D ∧ ∃ qa, qa < N ∧ a1 = nI qa ∧ ∃ qb, qb < N ∧ a2 = nI qb ∧ ∃ qc, qc < N ∧ a3 = nI qc ∧ u = (upd o 0 y, Fq qa qb qc))))) : W3 o u.1 := by
  rcases h with ⟨-, h, -⟩ | ⟨-, -, ⟨-, -, h⟩ | ⟨-, -, qa, -, -, qb, -, -, qc, -, -, h⟩⟩
  · exact w3_eq h
  · exact w3_eq h
  · exact w3_up h
end W3s
/-! ===== the law: both programs' worlds side by side ===== -/
def lA (s : State) : Nat → Prop := fun q => s.heap.size ≤ q
def mAd (M : mG) (q : Nat) : Prop := ∃ (k : Nat) (e : va_E), (mW M (fun _ => 0) (fun _ _ => 0))[k]? = some (q, e)
def cAd (G : cG) (S : cS) (q : Nat) : Prop := ∃ (k : Nat) (e : va_E), (cW G S)[k]? = some (q, e)
theorem mAd.of {M : mG} {o : Nat → Int32} {F : Nat → Nat → Int32} {k : Nat} {q : Nat × va_E} (h : (mW M o F)[k]? = some q) : mAd M q.1 := by
  have h1 : ((mW M (fun _ => 0) (fun _ _ => 0)).map (fun q => q.1))[k]? = some q.1 := by
    rw [mW_adr M _ o _ F, List.getElem?_map, h]
    rfl
  rw [List.getElem?_map] at h1
  cases hw : (mW M (fun _ => 0) (fun _ _ => 0))[k]? with
  | none => rw [hw] at h1; cases h1
  | some q' =>
    rw [hw] at h1
    have e : q'.1 = q.1 := Option.some.inj h1
    exact ⟨k, q'.2, by rw [hw, ← e]⟩
def LWd (s : State) (G : cG) (M : mG) (S : cS) (o : Nat → Int32) (F : Nat → Nat → Int32) (H : Heap) (locs : List Loc) : Prop := cP G S H ∧ cD (lA s) G S ∧ CL S ∧ mP M o F H ∧ (∀ q, mAd M q → q < H.size ∧ s.heap.size ≤ q ∧ ¬ cAd G S q) ∧ va_S (lA s) s.heap H locs
def K0 : Nat := 1274
def N0s : Nat := 1128101
section LAW
variable {p : Program} {l : Launch} {e : Env} {s : State} {m : MethodId} {args : Array Value} {below : List Frame} {meth : Method} {c : Code} {H : Heap} {locs : List Loc} {Q : State → Prop}
variable {cc bytes : ByteArray} {pc n nL index maxL : Nat} {ls : Array Slot} {st0 rest As : List Value} {Ts ws : List Cond} {G : cG} {M : mG} {S1 : cS} {o : Nat → Int32} {F : Nat → Nat → Int32} {y : MethodName} {rm : Room} {ret : Option FieldType} {own : String}
theorem l_bud (hC : CL S1) : K0 + PT S1 + (CC - PT S1) ≤ room_1.cells ∧ N0s + 12 * PT S1 + 12 * (CC - PT S1) ≤ room_1.slots := by
  have h := hC.pp
  have e1 : room_1.cells = 600000 := rfl
  have e2 : room_1.slots = 7302250 := rfl
  have e3 : CC = 270000 := rfl
  have e4 : K0 = 1274 := rfl
  have e5 : N0s = 1128101 := rfl
  rw [e1, e2]
  omega
theorem l_bud0 (hC : CL S1) : K0 + PT S1 + 0 ≤ room_1.cells ∧ N0s + 12 * PT S1 + 0 ≤ room_1.slots := by
  obtain ⟨a, b⟩ := l_bud hC
  omega
theorem l_runV {N q0 ci b f lo : Nat} {C : String} {T : u_T} {fs : List Value} {Qc : Array Value → State → Outcome → State → Prop} {free : Addr → Prop} (Sx : CallFix p m c cc nL s args Ts own) (hM : Met l y ws (cRm S1 f lo) (cPc G S1 H (.ref b :: As)) Qc (CC - PT S1) (12 * (CC - PT S1)) free) (cw : CallW room_1 s args own C index y bytes maxL ret ws (cRm S1 f lo) (CC - PT S1) (12 * (CC - PT S1)) n) (hW : LWd s G M S1 o F H locs) (hK : cK G s) (he : (cW G S1)[q0]? = some (b, .inr (ci, fs))) (hc : vwCl[ci]? = some (C, T, N))
    (hn : As.length = n) (hl : ls.size = nL) (hst : st0 = As.reverse ++ .ref b :: rest) (hW8 : 2 * (F0 m pc ls st0).monitorRoom + (rest.map fun v => v.category).sum ≤ 8) (hdg : decode cc pc = .ok (.invokevirtual index, 3)) :
    va_Run p l e room_1 s m args below meth c H locs (K0 + PT S1) (N0s + 12 * PT S1) (CC - PT S1) (12 * (CC - PT S1)) (F0 m pc ls st0) rest (Qc (Value.ref b :: As).toArray) free :=
  va_runV Sx hM cw ⟨c_fb _ _, va_recv hK hW.1 hc he, fun U hU hV => ⟨rfl, hU, hW.1, va_K.moved hV.alike hK, cD_in hW.2.1 (fun _ _ => trivial), hW.2.2.1⟩⟩ rfl hn hl hst hW8 hdg (l_bud hW.2.2.1)
theorem l_cA (hW : LWd s G M S1 o F H locs) : ∀ q, cA G S1 H.size q → lA s q := by
  rintro q (⟨k, e, h⟩ | h)
  · exact hW.2.1.2 k (q, e) h
  · exact Nat.le_trans hW.2.2.2.2.2.1 h
theorem l_mA (hW : LWd s G M S1 o F H locs) : ∀ q, mA M H.size q → lA s q := by
  rintro q (h | h)
  · exact (hW.2.2.2.2.1 q h).2.1
  · exact Nat.le_trans hW.2.2.2.2.2.1 h
theorem l_runVZ {tk N q0 ci b f lo : Nat} {C : String} {T : u_T} {fs : List Value} {Qc : Array Value → State → Outcome → State → Prop} {free : Addr → Prop} (Sx : CallFix p m c cc nL s args Ts own) (hM : Met l y ws (cRm S1 f lo) (cPcZ tk G S1 H (.ref b :: As)) Qc (CC - PT S1) (12 * (CC - PT S1)) free) (cw : CallW room_1 s args own C index y bytes maxL ret ws (cRm S1 f lo) (CC - PT S1) (12 * (CC - PT S1)) n) (hW : LWd s G M S1 o F H locs) (hK : cK G s) (hZ : ZT tk (lA s) s s.heap) (he : (cW G S1)[q0]? = some (b, .inr (ci, fs))) (hc : vwCl[ci]? = some (C, T, N))
    (hn : As.length = n) (hl : ls.size = nL) (hst : st0 = As.reverse ++ .ref b :: rest) (hW8 : 2 * (F0 m pc ls st0).monitorRoom + (rest.map fun v => v.category).sum ≤ 8) (hdg : decode cc pc = .ok (.invokevirtual index, 3)) :
    va_Run p l e room_1 s m args below meth c H locs (K0 + PT S1) (N0s + 12 * PT S1) (CC - PT S1) (12 * (CC - PT S1)) (F0 m pc ls st0) rest (Qc (Value.ref b :: As).toArray) free :=
  va_runV Sx hM cw ⟨c_fbZ _ _, va_recv hK hW.1 hc he, fun U hU hV => ⟨rfl, hU, hW.1, va_K.moved hV.alike hK, cD_in hW.2.1 (fun _ _ => trivial), hW.2.2.1, ZT.call hZ hW.2.2.2.2.2 hU hV (l_cA hW)⟩⟩ rfl hn hl hst hW8 hdg (l_bud hW.2.2.1)
theorem l_runM {Qc : Array Value → State → Outcome → State → Prop} {free : Addr → Prop} (Sx : CallFix p m c cc nL s args Ts own) (hM : Met l y ws rm (mPc M o F H.size (.ref (mh M) :: As)) Qc 0 0 free) (cw : CallW room_1 s args own RX8 index y bytes maxL ret ws rm 0 0 n) (hW : LWd s G M S1 o F H locs) (hK : mK M s)
    (hn : As.length = n) (hl : ls.size = nL) (hst : st0 = As.reverse ++ .ref (mh M) :: rest) (hW8 : 2 * (F0 m pc ls st0).monitorRoom + (rest.map fun v => v.category).sum ≤ 8) (hdg : decode cc pc = .ok (.invokevirtual index, 3)) :
    va_Run p l e room_1 s m args below meth c H locs (K0 + PT S1) (N0s + 12 * PT S1) 0 0 (F0 m pc ls st0) rest (Qc (Value.ref (mh M) :: As).toArray) free :=
  va_runV Sx hM cw ⟨m_fb _, va_recv (ci := 8) (q0 := 0) hK hW.2.2.2.1 rfl rfl, fun U hU hV => ⟨rfl, m_pre hW.2.2.2.1 hK U hU hV⟩⟩ rfl hn hl hst hW8 hdg (l_bud0 hW.2.2.1)
theorem LWd.cls {u : cS} {t : State} {H1 : Heap} {locs1 : List Loc} (hW : LWd s G M S1 o F H locs) (ht : t.heap = H1) (hB : cB G S1 H u t) (hz : H.size ≤ H1.size) (hk : ∀ q : Nat, q < H.size → ¬ cA G S1 H.size q → H1[q]? = H[q]?) (hS1 : va_S (lA s) s.heap H1 locs1) : LWd s G M u o F H1 locs1 := by
  obtain ⟨b1, b2, b3, b4, b5, b6, b7⟩ := hB
  obtain ⟨w1, w2, w3, w4, w5, w6⟩ := hW
  have hc : ∀ q, cAd G u q → cA G S1 H.size q := fun q ⟨k, e, h⟩ => b3.2 k (q, e) h
  refine ⟨ht ▸ b1, cD_in b3 (l_cA ⟨w1, w2, w3, w4, w5, w6⟩), b6, w4.kept (fun k q hq => ?_), fun q hq => ?_, hS1⟩
  · have h5 := w5 q.1 (mAd.of hq)
    exact hk q.1 h5.1 (fun z => z.elim (fun z => h5.2.2 z) (fun z => by have := h5.1; omega))
  · have h5 := w5 q hq
    exact ⟨Nat.lt_of_lt_of_le h5.1 hz, h5.2.1, fun z => (hc q z).elim (fun z => h5.2.2 z) (fun z => by have := h5.1; omega)⟩
theorem LWd.mdl {o1 : Nat → Int32} {F1 : Nat → Nat → Int32} {H1 : Heap} {locs1 : List Loc} (hW : LWd s G M S1 o F H locs) (hB : mP M o1 F1 H1) (hz : H.size ≤ H1.size) (hk : ∀ q : Nat, q < H.size → ¬ mA M H.size q → H1[q]? = H[q]?) (hS1 : va_S (lA s) s.heap H1 locs1) : LWd s G M S1 o1 F1 H1 locs1 := by
  obtain ⟨w1, w2, w3, w4, w5, w6⟩ := hW
  refine ⟨w1.kept (fun k q hq => ?_), w2, w3, hB, fun q hq => ?_, hS1⟩
  · have hlt := (w1 k q hq).lt
    exact hk q.1 hlt (fun z => z.elim (fun z => (w5 q.1 z).2.2 ⟨k, q.2, hq⟩) (fun z => by omega))
  · have h5 := w5 q hq
    exact ⟨Nat.lt_of_lt_of_le h5.1 hz, h5.2.1, h5.2.2⟩
theorem l_ci {a : Array Value} {post : Int32 → cS → Prop} (hr : va_Run p l e room_1 s m args below meth c H locs (K0 + PT S1) (N0s + 12 * PT S1) (CC - PT S1) (12 * (CC - PT S1)) (F0 m pc ls st0) rest (cQi G S1 H post a) (cA G S1 H.size)) (hW : LWd s G M S1 o F H locs)
    (kk : ∀ (r : Int32) (S2 : cS) (H : Heap) (locs : List Loc), post r S2 → LWd s G M S2 o F H locs → W p l e room_1 s m args below meth c H locs (K0 + PT S2) (N0s + 12 * PT S2) Q (F0 m (pc + 3) ls (.int r :: rest))) : W p l e room_1 s m args below meth c H locs (K0 + PT S1) (N0s + 12 * PT S1) Q (F0 m pc ls st0) := by
  refine W.know (fun hG0 => ?_)
  refine va_calli hr hW.2.2.2.2.2 (fun q _ h => l_cA hW q h) (fun q h => l_cA hW q h) (fun r u t H1 locs1 ht _ hw hB hz hk hS1 => ?_)
  have hW1 := hW.cls ht hB hz hk hS1
  obtain ⟨b1, b2, b3, b4, b5, b6, b7⟩ := hB
  rw [ht] at b4
  refine W.tight ((hG0.trans b4).mono (k' := K0 + PT u) (n' := N0s + 12 * PT u) (by omega) (by omega)) ?_
  exact kk r u H1 locs1 hw hW1
theorem l_cl {a : Array Value} {post : Int64 → cS → Prop} (hr : va_Run p l e room_1 s m args below meth c H locs (K0 + PT S1) (N0s + 12 * PT S1) (CC - PT S1) (12 * (CC - PT S1)) (F0 m pc ls st0) rest (cQl G S1 H post a) (cA G S1 H.size)) (hW : LWd s G M S1 o F H locs)
    (kk : ∀ (r : Int64) (S2 : cS) (H : Heap) (locs : List Loc), post r S2 → LWd s G M S2 o F H locs → W p l e room_1 s m args below meth c H locs (K0 + PT S2) (N0s + 12 * PT S2) Q (F0 m (pc + 3) ls (.long r :: rest))) : W p l e room_1 s m args below meth c H locs (K0 + PT S1) (N0s + 12 * PT S1) Q (F0 m pc ls st0) := by
  refine W.know (fun hG0 => ?_)
  refine va_calll hr hW.2.2.2.2.2 (fun q _ h => l_cA hW q h) (fun q h => l_cA hW q h) (fun r u t H1 locs1 ht _ hw hB hz hk hS1 => ?_)
  have hW1 := hW.cls ht hB hz hk hS1
  obtain ⟨b1, b2, b3, b4, b5, b6, b7⟩ := hB
  rw [ht] at b4
  refine W.tight ((hG0.trans b4).mono (k' := K0 + PT u) (n' := N0s + 12 * PT u) (by omega) (by omega)) ?_
  exact kk r u H1 locs1 hw hW1
theorem l_mi {a : Array Value} {post : Int32 → mS → Prop} {cells slots : Nat} (hr : va_Run p l e room_1 s m args below meth c H locs cells slots 0 0 (F0 m pc ls st0) rest (mQi M H.size post a) (mA M H.size)) (hW : LWd s G M S1 o F H locs)
    (kk : ∀ (r : Int32) (o : Nat → Int32) (F : Nat → Nat → Int32) (H : Heap) (locs : List Loc), post r (o, F) → LWd s G M S1 o F H locs → W p l e room_1 s m args below meth c H locs cells slots Q (F0 m (pc + 3) ls (.int r :: rest))) : W p l e room_1 s m args below meth c H locs cells slots Q (F0 m pc ls st0) :=
  va_calli hr hW.2.2.2.2.2 (fun q _ h => l_mA hW q h) (fun q h => l_mA hW q h) (fun r u t H1 locs1 ht _ hw hB hz hk hS1 => kk r u.1 u.2 H1 locs1 hw (hW.mdl (by rw [← ht]; exact hB.1) hz hk hS1))
theorem l_ml {a : Array Value} {post : Int64 → mS → Prop} {cells slots : Nat} (hr : va_Run p l e room_1 s m args below meth c H locs cells slots 0 0 (F0 m pc ls st0) rest (mQl M H.size post a) (mA M H.size)) (hW : LWd s G M S1 o F H locs)
    (kk : ∀ (r : Int64) (o : Nat → Int32) (F : Nat → Nat → Int32) (H : Heap) (locs : List Loc), post r (o, F) → LWd s G M S1 o F H locs → W p l e room_1 s m args below meth c H locs cells slots Q (F0 m (pc + 3) ls (.long r :: rest))) : W p l e room_1 s m args below meth c H locs cells slots Q (F0 m pc ls st0) :=
  va_calll hr hW.2.2.2.2.2 (fun q _ h => l_mA hW q h) (fun q h => l_mA hW q h) (fun r u t H1 locs1 ht _ hw hB hz hk hS1 => kk r u.1 u.2 H1 locs1 hw (hW.mdl (by rw [← ht]; exact hB.1) hz hk hS1))
end LAW
