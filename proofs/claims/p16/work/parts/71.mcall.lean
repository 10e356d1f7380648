/-! ===== the second program's calls and answers ===== -/
section MR
variable {p : Program} {l : Launch} {e : Env} {R : Room} {s : State} {m : MethodId} {args : Array Value} {below : List Frame} {meth : Method} {c : Code} {H : Heap} {locs : List Loc} {cells slots : Nat} {Q : State → Prop}
variable {cc bytes : ByteArray} {pc n nL index maxL : Nat} {ls : Array Slot} {st0 rest As : List Value} {Ts ws : List Cond} {G : mG} {o : Nat → Int32} {F : Nat → Nat → Int32} {y : MethodName} {rm : Room} {ret : Option FieldType} {own : String}
theorem m_iret (hx : p.tables.exec = Jvm.exec) (hb : c.code = cc) (hr : meth.sig.returnType = some .int) (hK : mK G s) (hP : mP G o F H) (hS : va_S (mA G s.heap.size) s.heap H locs) {v : Int32} {post : Int32 → mS → Prop} (hpost : post v (o, F)) (hdg : decode cc pc = .ok (.ireturn, 1)) (hlocks : meth.locks = false) :
    W p l e R s m args below meth c H locs 0 0 (MQ below (mQi G s.heap.size post) args s 0 0 (mA G s.heap.size)) (F0 m pc ls [.int v]) :=
  W.iret (v := v) hx hb hr (fun t ht hW => ⟨⟨v, (o, F), rfl, hpost, by show mP G o F t.heap; rw [ht]; exact hP, va_K.moved hW.alike hK⟩, hS.F ht⟩) hS.2.2 hdg hlocks
theorem m_zret {ty : FieldType} (hx : p.tables.exec = Jvm.exec) (hb : c.code = cc) (hr : meth.sig.returnType = some ty) (hK : mK G s) (hP : mP G o F H) (hS : va_S (mA G s.heap.size) s.heap H locs) {v : Int32} (hn : narrow ty (.int v) = .int v) {post : Int32 → mS → Prop} (hpost : post v (o, F)) (hdg : decode cc pc = .ok (.ireturn, 1)) (hlocks : meth.locks = false) :
    W p l e R s m args below meth c H locs 0 0 (MQ below (mQi G s.heap.size post) args s 0 0 (mA G s.heap.size)) (F0 m pc ls [.int v]) :=
  W.zret (v := v) hx hb hr hn (fun t ht hW => ⟨⟨v, (o, F), rfl, hpost, by show mP G o F t.heap; rw [ht]; exact hP, va_K.moved hW.alike hK⟩, hS.F ht⟩) hS.2.2 hdg hlocks
theorem m_vret (hx : p.tables.exec = Jvm.exec) (hb : c.code = cc) (hr : meth.sig.returnType = none) (hK : mK G s) (hP : mP G o F H) (hS : va_S (mA G s.heap.size) s.heap H locs) {post : mS → Prop} (hpost : post (o, F)) (hdg : decode cc pc = .ok (.return_, 1)) (hlocks : meth.locks = false) :
    W p l e R s m args below meth c H locs 0 0 (MQ below (mQv G s.heap.size post) args s 0 0 (mA G s.heap.size)) (F0 m pc ls []) :=
  W.vret hx hb hr (fun t ht hW => ⟨⟨(o, F), rfl, hpost, by show mP G o F t.heap; rw [ht]; exact hP, va_K.moved hW.alike hK⟩, hS.F ht⟩) hS.2.2 hdg hlocks
theorem m_runV {Qc : Array Value → State → Outcome → State → Prop} {free : Addr → Prop} (S : CallFix p m c cc nL s args Ts own) (hM : Met l y ws rm (mPc G o F H.size (.ref (mh G) :: As)) Qc 0 0 free) (cw : CallW R s args own RX8 index y bytes maxL ret ws rm 0 0 n) (hP : mP G o F H) (hK : mK G s)
    (hn : As.length = n) (hl : ls.size = nL) (hst : st0 = As.reverse ++ .ref (mh G) :: rest) (hW : 2 * (F0 m pc ls st0).monitorRoom + (rest.map fun v => v.category).sum ≤ 8) (hdg : decode cc pc = .ok (.invokevirtual index, 3)) :
    va_Run p l e R s m args below meth c H locs 0 0 0 0 (F0 m pc ls st0) rest (Qc (Value.ref (mh G) :: As).toArray) free :=
  va_runV S hM cw ⟨m_fb _, va_recv (ci := 8) (q0 := 0) hK hP rfl rfl, fun U hU hV => ⟨rfl, m_pre hP hK U hU hV⟩⟩ rfl hn hl hst hW hdg ⟨Nat.zero_le _, Nat.zero_le _⟩
theorem m_runS {Qc : Array Value → State → Outcome → State → Prop} {free : Addr → Prop} (S : CallFix p m c cc nL s args Ts own) (hM : Met l y ws rm (mPc G o F H.size As) Qc 0 0 free) (cw : CallB R s args own index y bytes maxL ret ws rm 0 0 n ∧ (Cond.static y).before args s = true) (hP : mP G o F H) (hK : mK G s)
    (hn : As.length = n) (hl : ls.size = nL) (hst : st0 = As.reverse ++ rest) (hW : 2 * (F0 m pc ls st0).monitorRoom + (rest.map fun v => v.category).sum ≤ 8) (hdg : decode cc pc = .ok (.invokestatic index, 3)) :
    va_Run p l e R s m args below meth c H locs 0 0 0 0 (F0 m pc ls st0) rest (Qc As.toArray) free :=
  va_runS S hM cw ⟨m_fb _, fun U hU hV => ⟨rfl, m_pre hP hK U hU hV⟩⟩ rfl hn hl hst hW hdg ⟨Nat.zero_le _, Nat.zero_le _⟩
theorem m_ci {a : Array Value} {post : Int32 → mS → Prop} (hr : va_Run p l e R s m args below meth c H locs 0 0 0 0 (F0 m pc ls st0) rest (mQi G H.size post a) (mA G H.size)) (hS : va_S (mA G s.heap.size) s.heap H locs)
    (kk : ∀ (r : Int32) (o : Nat → Int32) (F : Nat → Nat → Int32) (H : Heap) (locs : List Loc), post r (o, F) → mP G o F H → va_S (mA G s.heap.size) s.heap H locs → W p l e R s m args below meth c H locs 0 0 Q (F0 m (pc + 3) ls (.int r :: rest))) : W p l e R s m args below meth c H locs 0 0 Q (F0 m pc ls st0) :=
  va_calli hr hS (fun _ _ h => h.le hS.1) (fun _ h => h.le hS.1) (fun r u t H1 locs1 ht _ hw hB _ _ hS1 => kk r u.1 u.2 H1 locs1 hw (by rw [← ht]; exact hB.1) hS1)
theorem m_cv {a : Array Value} {post : mS → Prop} (hr : va_Run p l e R s m args below meth c H locs 0 0 0 0 (F0 m pc ls st0) rest (mQv G H.size post a) (mA G H.size)) (hS : va_S (mA G s.heap.size) s.heap H locs)
    (kk : ∀ (o : Nat → Int32) (F : Nat → Nat → Int32) (H : Heap) (locs : List Loc), post (o, F) → mP G o F H → va_S (mA G s.heap.size) s.heap H locs → W p l e R s m args below meth c H locs 0 0 Q (F0 m (pc + 3) ls rest)) : W p l e R s m args below meth c H locs 0 0 Q (F0 m pc ls st0) :=
  va_callv hr hS (fun _ _ h => h.le hS.1) (fun _ h => h.le hS.1) (fun u t H1 locs1 ht _ hw hB _ _ hS1 => kk u.1 u.2 H1 locs1 hw (by rw [← ht]; exact hB.1) hS1)
theorem m_top {x y : Int32} (h : x = y) (kk : W p l e R s m args below meth c H locs cells slots Q (F0 m pc ls (.int y :: rest))) : W p l e R s m args below meth c H locs cells slots Q (F0 m pc ls (.int x :: rest)) := by rw [h]; exact kk
end MR
theorem W.heq {p : Program} {l : Launch} {e : Env} {R : Room} {s : State} {m : MethodId} {args : Array Value} {below : List Frame} {meth : Method} {c : Code} {H H' : Heap} {locs : List Loc} {cells slots : Nat} {Q : State → Prop} {g : JFrame} (h : H = H') (kk : W p l e R s m args below meth c H locs cells slots Q g) : W p l e R s m args below meth c H' locs cells slots Q g := by rw [← h]; exact kk
