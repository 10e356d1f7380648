/-! ===== the second program's bytes and truths ===== -/
section MB
variable {p : Program} {l : Launch} {e : Env} {R : Room} {s : State} {m : MethodId} {args : Array Value} {below : List Frame} {meth : Method} {c : Code} {H : Heap} {locs : List Loc} {cells slots : Nat} {Q : State → Prop}
variable {cc : ByteArray} {pc : Nat} {ls : Array Slot} {rest : List Value} {G : mG} {o : Nat → Int32} {F : Nat → Nat → Int32} {sz : Nat} {H0 : Heap}
theorem m_bald (hexec : p.tables.exec = Jvm.exec) (hb : c.code = cc) (hK : mK G s) (hP : mP G o F H) (q k : Nat) {n : Nat} (ha : (mW G o F)[q]? = some (md G k, .inl (mB G, n, .inl (F k)))) {j : Nat} (hj : j < n) (hn : n < 2 ^ 31) {v : Int32} (hv : F k j = v) (hdg : decode cc pc = .ok (.baload, 1))
    (kk : W p l e R s m args below meth c H locs cells slots Q (F0 m (pc + 1) ls (.int v :: rest))) : W p l e R s m args below meth c H locs cells slots Q (F0 m pc ls (.int (nI j) :: .ref (md G k) :: rest)) := by
  refine va_bald hexec hb hK hP q 1 ha rfl (vp_in_nI hj hn) hdg ?_
  rw [nI_clamp (by omega), hv]
  exact kk
theorem m_zald (hexec : p.tables.exec = Jvm.exec) (hb : c.code = cc) (hK : mK G s) (hP : mP G o F H) (q k : Nat) {n : Nat} (ha : (mW G o F)[q]? = some (md G k, .inl (mZ G, n, .inl (F k)))) {j : Nat} (hj : j < n) (hn : n < 2 ^ 31) {v : Int32} (hv : F k j = v) (hdg : decode cc pc = .ok (.baload, 1))
    (kk : W p l e R s m args below meth c H locs cells slots Q (F0 m (pc + 1) ls (.int v :: rest))) : W p l e R s m args below meth c H locs cells slots Q (F0 m pc ls (.int (nI j) :: .ref (md G k) :: rest)) := by
  refine va_zald hexec hb hK hP q 2 ha rfl (vp_in_nI hj hn) hdg ?_
  rw [nI_clamp (by omega), hv]
  exact kk
theorem m_bast (hexec : p.tables.exec = Jvm.exec) (hb : c.code = cc) (hK : mK G s) (hP : mP G o F H) (hDD : mDD G) (hS : va_S (mA G sz) H0 H locs) (q k : Nat) {n : Nat} (ha : (mW G o F)[q]? = some (md G k, .inl (mB G, n, .inl (F k)))) {j : Nat} {x : Int32} (hj : j < n) (hn : n < 2 ^ 31) (hset : (mW G o F).set q (md G k, .inl (mB G, n, .inl (upd (F k) j (vp_nar .byte x)))) = mW G o (fput F k j (vp_nar .byte x))) (hdg : decode cc pc = .ok (.bastore, 1))
    (kk : ∀ (H : Heap) (locs : List Loc), mP G o (fput F k j (vp_nar .byte x)) H → va_S (mA G sz) H0 H locs → W p l e R s m args below meth c H locs cells slots Q (F0 m (pc + 1) ls rest)) : W p l e R s m args below meth c H locs cells slots Q (F0 m pc ls (.int x :: .int (nI j) :: .ref (md G k) :: rest)) := by
  refine va_bast hexec hb hK hP (hDD.at o F sz) hS q 1 ha rfl (vp_in_nI hj hn) hdg (fun H1 l1 hP1 _ hS1 => kk H1 l1 ?_ hS1)
  rw [nI_clamp (by omega), hset] at hP1
  exact hP1
theorem m_zast (hexec : p.tables.exec = Jvm.exec) (hb : c.code = cc) (hK : mK G s) (hP : mP G o F H) (hDD : mDD G) (hS : va_S (mA G sz) H0 H locs) (q k : Nat) {n : Nat} (ha : (mW G o F)[q]? = some (md G k, .inl (mZ G, n, .inl (F k)))) {j : Nat} {x : Int32} (hj : j < n) (hn : n < 2 ^ 31) (hset : (mW G o F).set q (md G k, .inl (mZ G, n, .inl (upd (F k) j (vp_nar .boolean x)))) = mW G o (fput F k j (vp_nar .boolean x))) (hdg : decode cc pc = .ok (.bastore, 1))
    (kk : ∀ (H : Heap) (locs : List Loc), mP G o (fput F k j (vp_nar .boolean x)) H → va_S (mA G sz) H0 H locs → W p l e R s m args below meth c H locs cells slots Q (F0 m (pc + 1) ls rest)) : W p l e R s m args below meth c H locs cells slots Q (F0 m pc ls (.int x :: .int (nI j) :: .ref (md G k) :: rest)) := by
  refine va_zast hexec hb hK hP (hDD.at o F sz) hS q 2 ha rfl (vp_in_nI hj hn) hdg (fun H1 l1 hP1 _ hS1 => kk H1 l1 ?_ hS1)
  rw [nI_clamp (by omega), hset] at hP1
  exact hP1
end MB
