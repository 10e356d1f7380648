/-! ===== the class's calls and answers ===== -/
section CR
variable {p : Program} {l : Launch} {e : Env} {R : Room} {s : State} {m : MethodId} {args : Array Value} {below : List Frame} {meth : Method} {c : Code} {H : Heap} {locs : List Loc} {Q : State → Prop}
variable {cc bytes : ByteArray} {pc n nL index maxL : Nat} {ls : Array Slot} {st0 rest As : List Value} {Ts ws : List Cond} {G : cG} {S S1 : cS} {y : MethodName} {rm : Room} {ret : Option FieldType} {own : String}
theorem c_fb (Hs : Heap) (av : List Value) : ∀ (a : Array Value) (U : State) (g : JFrame) (mk : MethodId), cPc G S Hs av a U → cPc G S Hs av a (U.calling g mk a) := fun a U g mk q => by
  obtain ⟨q0, q1, qP, qK, qD, qC⟩ := q
  exact ⟨q0, q1, qP, va_K.moved (u := U) (U := U.calling g mk a) (Vm.Alike.refl U.vm) qK, qD, qC⟩
theorem c_pre (hP : cP G S1 H) (hK : cK G s) (hD : cD (cA G S s.heap.size) G S1) (hC : CL S1) : ∀ U : State, U.heap = H → s.WarmedH U.vm → U.heap = H ∧ cP G S1 H ∧ cK G U ∧ cD (fun _ => True) G S1 ∧ CL S1 :=
  fun U hU hW => ⟨hU, hP, va_K.moved hW.alike hK, cD_in hD (fun _ _ => trivial), hC⟩
theorem c_bud (hpp : PT S ≤ PT S1) (hC : CL S1) : (PT S1 - PT S) + (CC - PT S1) ≤ CC - PT S ∧ 12 * (PT S1 - PT S) + 12 * (CC - PT S1) ≤ 12 * (CC - PT S) := by
  have := hC.pp
  omega
theorem c_runV {C : String} {T : u_T} {N q0 ci b f lo : Nat} {fs : List Value} {Qc : Array Value → State → Outcome → State → Prop} {free : Addr → Prop} (Sx : CallFix p m c cc nL s args Ts own) (hM : Met l y ws rm (cPc G S1 H (.ref b :: As)) Qc (CC - PT S1) (12 * (CC - PT S1)) free) (cw : CallW (cRm S f lo) s args own C index y bytes maxL ret ws rm (CC - PT S1) (12 * (CC - PT S1)) n) (hP : cP G S1 H) (hK : cK G s) (hD : cD (cA G S s.heap.size) G S1) (hC : CL S1) (hpp : PT S ≤ PT S1) (he : (cW G S1)[q0]? = some (b, .inr (ci, fs))) (hc : vwCl[ci]? = some (C, T, N))
    (hn : As.length = n) (hl : ls.size = nL) (hst : st0 = As.reverse ++ .ref b :: rest) (hW : 2 * (F0 m pc ls st0).monitorRoom + (rest.map fun v => v.category).sum ≤ 8) (hdg : decode cc pc = .ok (.invokevirtual index, 3)) :
    va_Run p l e (cRm S f lo) s m args below meth c H locs (PT S1 - PT S) (12 * (PT S1 - PT S)) (CC - PT S1) (12 * (CC - PT S1)) (F0 m pc ls st0) rest (Qc (Value.ref b :: As).toArray) free :=
  va_runV Sx hM cw ⟨c_fb _ _, va_recv hK hP hc he, fun U hU hV => ⟨rfl, c_pre hP hK hD hC U hU hV⟩⟩ rfl hn hl hst hW hdg (c_bud hpp hC)
theorem c_runS {f lo : Nat} {Qc : Array Value → State → Outcome → State → Prop} {free : Addr → Prop} (Sx : CallFix p m c cc nL s args Ts own) (hM : Met l y ws rm (cPc G S1 H As) Qc (CC - PT S1) (12 * (CC - PT S1)) free) (cw : CallB (cRm S f lo) s args own index y bytes maxL ret ws rm (CC - PT S1) (12 * (CC - PT S1)) n ∧ (Cond.static y).before args s = true) (hP : cP G S1 H) (hK : cK G s) (hD : cD (cA G S s.heap.size) G S1) (hC : CL S1) (hpp : PT S ≤ PT S1)
    (hn : As.length = n) (hl : ls.size = nL) (hst : st0 = As.reverse ++ rest) (hW : 2 * (F0 m pc ls st0).monitorRoom + (rest.map fun v => v.category).sum ≤ 8) (hdg : decode cc pc = .ok (.invokestatic index, 3)) :
    va_Run p l e (cRm S f lo) s m args below meth c H locs (PT S1 - PT S) (12 * (PT S1 - PT S)) (CC - PT S1) (12 * (CC - PT S1)) (F0 m pc ls st0) rest (Qc As.toArray) free :=
  va_runS Sx hM cw ⟨c_fb _ _, fun U hU hV => ⟨rfl, c_pre hP hK hD hC U hU hV⟩⟩ rfl hn hl hst hW hdg (c_bud hpp hC)
theorem c_ci {a : Array Value} {post : Int32 → cS → Prop} (hr : va_Run p l e R s m args below meth c H locs (PT S1 - PT S) (12 * (PT S1 - PT S)) (CC - PT S1) (12 * (CC - PT S1)) (F0 m pc ls st0) rest (cQi G S1 H post a) (cA G S1 H.size)) (hS : va_S (cA G S s.heap.size) s.heap H locs) (hD : cD (cA G S s.heap.size) G S1) (hh : HS S S1) (hpp : PT S ≤ PT S1)
    (kk : ∀ (r : Int32) (S2 : cS) (H : Heap) (locs : List Loc), post r S2 → cP G S2 H → cD (cA G S s.heap.size) G S2 → va_S (cA G S s.heap.size) s.heap H locs → CL S2 → HS S S2 → HS S1 S2 → PT S ≤ PT S2 → W p l e R s m args below meth c H locs (PT S2 - PT S) (12 * (PT S2 - PT S)) Q (F0 m (pc + 3) ls (.int r :: rest))) : W p l e R s m args below meth c H locs (PT S1 - PT S) (12 * (PT S1 - PT S)) Q (F0 m pc ls st0) := by
  refine W.know (fun hG0 => ?_)
  refine va_calli hr hS (fun q _ h => cA_in hD hS q h) (fun q h => cA_in hD hS q h) (fun r u t H1 locs1 ht _ hw hB _ _ hS1 => ?_)
  obtain ⟨b1, b2, b3, b4, b5, b6, b7⟩ := hB
  rw [ht] at b1 b4
  refine W.tight ((hG0.trans b4).mono (k' := PT u - PT S) (n' := 12 * (PT u - PT S)) (by omega) (by omega)) ?_
  exact kk r u H1 locs1 hw b1 (cD_in b3 (cA_in hD hS)) hS1 b6 (hh.tr b7) b7 (by omega)
theorem c_cv {a : Array Value} {post : cS → Prop} (hr : va_Run p l e R s m args below meth c H locs (PT S1 - PT S) (12 * (PT S1 - PT S)) (CC - PT S1) (12 * (CC - PT S1)) (F0 m pc ls st0) rest (cQv G S1 H post a) (cA G S1 H.size)) (hS : va_S (cA G S s.heap.size) s.heap H locs) (hD : cD (cA G S s.heap.size) G S1) (hh : HS S S1) (hpp : PT S ≤ PT S1)
    (kk : ∀ (S2 : cS) (H : Heap) (locs : List Loc), post S2 → cP G S2 H → cD (cA G S s.heap.size) G S2 → va_S (cA G S s.heap.size) s.heap H locs → CL S2 → HS S S2 → HS S1 S2 → PT S ≤ PT S2 → W p l e R s m args below meth c H locs (PT S2 - PT S) (12 * (PT S2 - PT S)) Q (F0 m (pc + 3) ls rest)) : W p l e R s m args below meth c H locs (PT S1 - PT S) (12 * (PT S1 - PT S)) Q (F0 m pc ls st0) := by
  refine W.know (fun hG0 => ?_)
  refine va_callv hr hS (fun q _ h => cA_in hD hS q h) (fun q h => cA_in hD hS q h) (fun u t H1 locs1 ht _ hw hB _ _ hS1 => ?_)
  obtain ⟨b1, b2, b3, b4, b5, b6, b7⟩ := hB
  rw [ht] at b1 b4
  refine W.tight ((hG0.trans b4).mono (k' := PT u - PT S) (n' := 12 * (PT u - PT S)) (by omega) (by omega)) ?_
  exact kk u H1 locs1 hw b1 (cD_in b3 (cA_in hD hS)) hS1 b6 (hh.tr b7) b7 (by omega)
theorem c_cr {a : Array Value} {post : Nat → cS → Prop} (hr : va_Run p l e R s m args below meth c H locs (PT S1 - PT S) (12 * (PT S1 - PT S)) (CC - PT S1) (12 * (CC - PT S1)) (F0 m pc ls st0) rest (cQr G S1 H post a) (cA G S1 H.size)) (hS : va_S (cA G S s.heap.size) s.heap H locs) (hD : cD (cA G S s.heap.size) G S1) (hh : HS S S1) (hpp : PT S ≤ PT S1)
    (kk : ∀ (r : Nat) (S2 : cS) (H : Heap) (locs : List Loc), post r S2 → cP G S2 H → cD (cA G S s.heap.size) G S2 → va_S (cA G S s.heap.size) s.heap H locs → CL S2 → HS S S2 → HS S1 S2 → PT S ≤ PT S2 → W p l e R s m args below meth c H locs (PT S2 - PT S) (12 * (PT S2 - PT S)) Q (F0 m (pc + 3) ls (.ref r :: rest))) : W p l e R s m args below meth c H locs (PT S1 - PT S) (12 * (PT S1 - PT S)) Q (F0 m pc ls st0) := by
  refine W.know (fun hG0 => ?_)
  refine va_callr hr hS (fun q _ h => cA_in hD hS q h) (fun q h => cA_in hD hS q h) (fun u r t H1 locs1 ht _ hw hB _ _ hS1 => ?_)
  obtain ⟨b1, b2, b3, b4, b5, b6, b7⟩ := hB.1
  rw [ht] at b1 b4
  refine W.tight ((hG0.trans b4).mono (k' := PT u - PT S) (n' := 12 * (PT u - PT S)) (by omega) (by omega)) ?_
  exact kk r u H1 locs1 hB.2 b1 (cD_in b3 (cA_in hD hS)) hS1 b6 (hh.tr b7) b7 (by omega)
theorem c_iret (hx : p.tables.exec = Jvm.exec) (hb : c.code = cc) (hr : meth.sig.returnType = some .int) (hK : cK G s) (hP : cP G S1 H) (hD : cD (cA G S s.heap.size) G S1) (hS : va_S (cA G S s.heap.size) s.heap H locs) (hC : CL S1) (hh : HS S S1) (hpp : PT S ≤ PT S1) {v : Int32} {post : Int32 → cS → Prop} (hpost : post v S1) (hdg : decode cc pc = .ok (.ireturn, 1)) (hlocks : meth.locks = false) :
    W p l e R s m args below meth c H locs (PT S1 - PT S) (12 * (PT S1 - PT S)) (MQ below (cQi G S s.heap post) args s (CC - PT S) (12 * (CC - PT S)) (cA G S s.heap.size)) (F0 m pc ls [.int v]) := by
  have hcc := hC.pp
  refine W.know (fun hG => ?_)
  refine W.widen (k := CC - PT S) (n := 12 * (CC - PT S)) (by omega) (by omega) ?_
  exact W.iret (v := v) hx hb hr (fun t ht hW => ⟨⟨v, S1, rfl, hpost, ⟨by rw [ht]; exact hP, va_K.moved hW.alike hK, hD, by rw [ht]; exact hG, hpp, hC, hh⟩⟩, hS.F ht⟩) hS.2.2 hdg hlocks
theorem c_zret (hx : p.tables.exec = Jvm.exec) (hb : c.code = cc) {ty : FieldType} (hr : meth.sig.returnType = some ty) (hK : cK G s) (hP : cP G S1 H) (hD : cD (cA G S s.heap.size) G S1) (hS : va_S (cA G S s.heap.size) s.heap H locs) (hC : CL S1) (hh : HS S S1) (hpp : PT S ≤ PT S1) {v : Int32} (hn : narrow ty (.int v) = .int v) {post : Int32 → cS → Prop} (hpost : post v S1) (hdg : decode cc pc = .ok (.ireturn, 1)) (hlocks : meth.locks = false) :
    W p l e R s m args below meth c H locs (PT S1 - PT S) (12 * (PT S1 - PT S)) (MQ below (cQi G S s.heap post) args s (CC - PT S) (12 * (CC - PT S)) (cA G S s.heap.size)) (F0 m pc ls [.int v]) := by
  have hcc := hC.pp
  refine W.know (fun hG => ?_)
  refine W.widen (k := CC - PT S) (n := 12 * (CC - PT S)) (by omega) (by omega) ?_
  exact W.zret (v := v) hx hb hr hn (fun t ht hW => ⟨⟨v, S1, rfl, hpost, ⟨by rw [ht]; exact hP, va_K.moved hW.alike hK, hD, by rw [ht]; exact hG, hpp, hC, hh⟩⟩, hS.F ht⟩) hS.2.2 hdg hlocks
theorem c_vret (hx : p.tables.exec = Jvm.exec) (hb : c.code = cc) (hr : meth.sig.returnType = none) (hK : cK G s) (hP : cP G S1 H) (hD : cD (cA G S s.heap.size) G S1) (hS : va_S (cA G S s.heap.size) s.heap H locs) (hC : CL S1) (hh : HS S S1) (hpp : PT S ≤ PT S1) {post : cS → Prop} (hpost : post S1) (hdg : decode cc pc = .ok (.return_, 1)) (hlocks : meth.locks = false) :
    W p l e R s m args below meth c H locs (PT S1 - PT S) (12 * (PT S1 - PT S)) (MQ below (cQv G S s.heap post) args s (CC - PT S) (12 * (CC - PT S)) (cA G S s.heap.size)) (F0 m pc ls []) := by
  have hcc := hC.pp
  refine W.know (fun hG => ?_)
  refine W.widen (k := CC - PT S) (n := 12 * (CC - PT S)) (by omega) (by omega) ?_
  exact W.vret hx hb hr (fun t ht hW => ⟨⟨S1, rfl, hpost, ⟨by rw [ht]; exact hP, va_K.moved hW.alike hK, hD, by rw [ht]; exact hG, hpp, hC, hh⟩⟩, hS.F ht⟩) hS.2.2 hdg hlocks
theorem c_lret (hx : p.tables.exec = Jvm.exec) (hb : c.code = cc) (hr : meth.sig.returnType = some .long) (hK : cK G s) (hP : cP G S1 H) (hD : cD (cA G S s.heap.size) G S1) (hS : va_S (cA G S s.heap.size) s.heap H locs) (hC : CL S1) (hh : HS S S1) (hpp : PT S ≤ PT S1) {v : Int64} {post : Int64 → cS → Prop} (hpost : post v S1) (hdg : decode cc pc = .ok (.lreturn, 1)) (hlocks : meth.locks = false) :
    W p l e R s m args below meth c H locs (PT S1 - PT S) (12 * (PT S1 - PT S)) (MQ below (cQl G S s.heap post) args s (CC - PT S) (12 * (CC - PT S)) (cA G S s.heap.size)) (F0 m pc ls [.long v]) := by
  have hcc := hC.pp
  refine W.know (fun hG => ?_)
  refine W.widen (k := CC - PT S) (n := 12 * (CC - PT S)) (by omega) (by omega) ?_
  exact W.lret (v := v) hx hb hr (fun t ht hW => ⟨⟨v, S1, rfl, hpost, ⟨by rw [ht]; exact hP, va_K.moved hW.alike hK, hD, by rw [ht]; exact hG, hpp, hC, hh⟩⟩, hS.F ht⟩) hS.2.2 hdg hlocks
theorem c_aret (hx : p.tables.exec = Jvm.exec) (hb : c.code = cc) {ty : FieldType} (hr : meth.sig.returnType = some ty) (hK : cK G s) (hP : cP G S1 H) (hD : cD (cA G S s.heap.size) G S1) (hS : va_S (cA G S s.heap.size) s.heap H locs) (hC : CL S1) (hh : HS S S1) (hpp : PT S ≤ PT S1) {v : Nat} (hrt : ty = .object "PolarTypes$Row") {post : Nat → cS → Prop} (hpost : post v S1) (hdg : decode cc pc = .ok (.areturn, 1)) (hlocks : meth.locks = false) :
    W p l e R s m args below meth c H locs (PT S1 - PT S) (12 * (PT S1 - PT S)) (MQ below (cQr G S s.heap post) args s (CC - PT S) (12 * (CC - PT S)) (cA G S s.heap.size)) (F0 m pc ls [.ref v]) := by
  have hcc := hC.pp
  refine W.know (fun hG => ?_)
  refine W.widen (k := CC - PT S) (n := 12 * (CC - PT S)) (by omega) (by omega) ?_
  exact W.aret (v := .ref v) hx hb hr (Or.inl ⟨_, hrt⟩) (Or.inr ⟨_, rfl⟩) (fun t ht hW => ⟨⟨S1, v, rfl, trivial, ⟨⟨by rw [ht]; exact hP, va_K.moved hW.alike hK, hD, by rw [ht]; exact hG, hpp, hC, hh⟩, hpost⟩⟩, hS.F ht⟩) hS.2.2 hdg hlocks
end CR
