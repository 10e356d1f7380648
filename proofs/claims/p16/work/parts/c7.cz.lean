/-! ===== the class's world, with the table of KINDS ===== -/
def cPcZ (tk : Nat) (G : cG) (S : cS) (Hs : Heap) (av : List Value) : Array Value → State → Prop := va_Pc av (fun U => U.heap = Hs ∧ cP G S Hs ∧ cK G U ∧ cD (fun _ => True) G S ∧ CL S ∧ ZT tk (cA G S Hs.size) U U.heap)
theorem ZT.nar {tk : Nat} {A B : Nat → Prop} {U : State} {H : Heap} (h : ZT tk A U H) (hAB : ∀ q, B q → A q) : ZT tk B U H := ⟨h.1.narrow hAB, h.2.narrow hAB⟩
theorem cPcZ_c {tk : Nat} {G : cG} {S : cS} {Hs : Heap} {av : List Value} {a : Array Value} {s : State} (h : cPcZ tk G S Hs av a s) : cPc G S Hs av a s := by
  obtain ⟨q0, q1, qP, qK, qD, qC, -⟩ := h
  exact ⟨q0, q1, qP, qK, qD, qC⟩
theorem va_A0 {G : cG} {S : cS} {sz : Nat} : ∀ q, va_A [] sz q → cA G S sz q := by
  rintro q (⟨k, e, he⟩ | he)
  · simp at he
  · exact Or.inr he
theorem va_D0 {A : Nat → Prop} : va_D A [] := ⟨fun i j p q h => by simp at h, fun k q h => by simp at h⟩
section CRZ
variable {p : Program} {l : Launch} {e : Env} {R : Room} {s : State} {m : MethodId} {args : Array Value} {below : List Frame} {meth : Method} {c : Code} {H : Heap} {locs : List Loc} {Q : State → Prop}
variable {cc bytes : ByteArray} {pc n nL index maxL : Nat} {ls : Array Slot} {st0 rest As : List Value} {Ts ws : List Cond} {G : cG} {S S1 : cS} {y : MethodName} {rm : Room} {ret : Option FieldType} {own : String}
theorem c_fbZ {tk : Nat} (Hs : Heap) (av : List Value) : ∀ (a : Array Value) (U : State) (g : JFrame) (mk : MethodId), cPcZ tk G S Hs av a U → cPcZ tk G S Hs av a (U.calling g mk a) := fun a U g mk q => by
  obtain ⟨q0, q1, qP, qK, qD, qC, qZ⟩ := q
  exact ⟨q0, q1, qP, va_K.moved (u := U) (U := U.calling g mk a) (Vm.Alike.refl U.vm) qK, qD, qC, qZ.calling g mk a⟩
theorem c_preZ {tk : Nat} (hP : cP G S1 H) (hK : cK G s) (hD : cD (cA G S s.heap.size) G S1) (hC : CL S1) (hS : va_S (cA G S s.heap.size) s.heap H locs) (hZ : ZT tk (cA G S s.heap.size) s s.heap) : ∀ U : State, U.heap = H → s.WarmedH U.vm → U.heap = H ∧ cP G S1 H ∧ cK G U ∧ cD (fun _ => True) G S1 ∧ CL S1 ∧ ZT tk (cA G S1 H.size) U U.heap :=
  fun U hU hW => ⟨hU, hP, va_K.moved hW.alike hK, cD_in hD (fun _ _ => trivial), hC, ZT.call hZ hS hU hW (cA_in hD hS)⟩
theorem c_runVZ {tk : Nat} {C : String} {T : u_T} {N q0 ci b f lo : Nat} {fs : List Value} {Qc : Array Value → State → Outcome → State → Prop} {free : Addr → Prop} (Sx : CallFix p m c cc nL s args Ts own) (hM : Met l y ws rm (cPcZ tk G S1 H (.ref b :: As)) Qc (CC - PT S1) (12 * (CC - PT S1)) free) (cw : CallW (cRm S f lo) s args own C index y bytes maxL ret ws rm (CC - PT S1) (12 * (CC - PT S1)) n) (hP : cP G S1 H) (hK : cK G s) (hD : cD (cA G S s.heap.size) G S1) (hC : CL S1) (hpp : PT S ≤ PT S1) (hS : va_S (cA G S s.heap.size) s.heap H locs) (hZ : ZT tk (cA G S s.heap.size) s s.heap) (he : (cW G S1)[q0]? = some (b, .inr (ci, fs))) (hc : vwCl[ci]? = some (C, T, N))
    (hn : As.length = n) (hl : ls.size = nL) (hst : st0 = As.reverse ++ .ref b :: rest) (hW : 2 * (F0 m pc ls st0).monitorRoom + (rest.map fun v => v.category).sum ≤ 8) (hdg : decode cc pc = .ok (.invokevirtual index, 3)) :
    va_Run p l e (cRm S f lo) s m args below meth c H locs (PT S1 - PT S) (12 * (PT S1 - PT S)) (CC - PT S1) (12 * (CC - PT S1)) (F0 m pc ls st0) rest (Qc (Value.ref b :: As).toArray) free :=
  va_runV Sx hM cw ⟨c_fbZ _ _, va_recv hK hP hc he, fun U hU hV => ⟨rfl, c_preZ hP hK hD hC hS hZ U hU hV⟩⟩ rfl hn hl hst hW hdg (c_bud hpp hC)
theorem c_runSZ {tk : Nat} {f lo : Nat} {Qc : Array Value → State → Outcome → State → Prop} {free : Addr → Prop} (Sx : CallFix p m c cc nL s args Ts own) (hM : Met l y ws rm (cPcZ tk G S1 H As) Qc (CC - PT S1) (12 * (CC - PT S1)) free) (cw : CallB (cRm S f lo) s args own index y bytes maxL ret ws rm (CC - PT S1) (12 * (CC - PT S1)) n ∧ (Cond.static y).before args s = true) (hP : cP G S1 H) (hK : cK G s) (hD : cD (cA G S s.heap.size) G S1) (hC : CL S1) (hpp : PT S ≤ PT S1) (hS : va_S (cA G S s.heap.size) s.heap H locs) (hZ : ZT tk (cA G S s.heap.size) s s.heap)
    (hn : As.length = n) (hl : ls.size = nL) (hst : st0 = As.reverse ++ rest) (hW : 2 * (F0 m pc ls st0).monitorRoom + (rest.map fun v => v.category).sum ≤ 8) (hdg : decode cc pc = .ok (.invokestatic index, 3)) :
    va_Run p l e (cRm S f lo) s m args below meth c H locs (PT S1 - PT S) (12 * (PT S1 - PT S)) (CC - PT S1) (12 * (CC - PT S1)) (F0 m pc ls st0) rest (Qc As.toArray) free :=
  va_runS Sx hM cw ⟨c_fbZ _ _, fun U hU hV => ⟨rfl, c_preZ hP hK hD hC hS hZ U hU hV⟩⟩ rfl hn hl hst hW hdg (c_bud hpp hC)
end CRZ
theorem z_isKind (l : Launch) (G : cG) (S : cS) (tk : Nat) (x : Int32) (hC : CL S) (Hs : Heap) : Met l yX3_isKind (wC yX3_isKind cX3_isKind 1 (some .boolean)) (cRm S 0 0) (cPcZ tk G S Hs [.int x]) (cQi G S Hs (fun v u => AW [] [] S u ∧ (u = S ∧ v = p_isK x))) (CC - PT S) (12 * (CC - PT S)) (cA G S Hs.size) := by
  refine Met.conv (c_isKind l (gD G).1 (gD G).2 (gI G) tk x Hs.size) (fun w h => (show ∀ w ∈ wsX3_isKind, w ∈ (wC yX3_isKind cX3_isKind 1 (some .boolean)) from fun w h => List.mem_cons_of_mem _ ((List.forall_mem_cons.mpr ⟨C_169, (List.forall_mem_cons.mpr ⟨C_170, cm_0⟩)⟩) w h)) w h) (Nat.le_refl _) (Nat.le_refl _) (Nat.zero_le _) (Nat.zero_le _) (Nat.zero_le _) (Nat.zero_le _) ?_ ?_ va_A0
  · rintro a s ⟨e0, e1, hP, hK, hD, -, hZ⟩
    exact ⟨e0, by rw [e1], fun k q h => by simp at h, cK_i hK, va_D0, hZ.nar va_A0⟩
  · rintro a s o t hpc ⟨⟨v, u0, eo, hv, hP1, hK1, hD1⟩, hF⟩ ⟨L, hE⟩
    exact ⟨⟨v, S, eo, ⟨AW.rf, rfl, hv⟩, cB_of [] (cPcZ_c hpc) hF hE hP1 hD1 rfl (fun j e h => by simp at h) (fun j k h => by simp at h) (fun _ _ => rfl) (Nat.zero_le _) (Nat.zero_le _) (Nat.le_refl _) (cPcZ_c hpc).2.2.2.2.2 HS.rf⟩, hF.1, fun q hq hn => hF.2 q hq (fun h => hn (va_A0 q h))⟩
theorem z_partsOfKind (l : Launch) (G : cG) (S : cS) (tk : Nat) (x : Int32) (hC : CL S) (Hs : Heap) : Met l yX3_partsOfKind (wC yX3_partsOfKind cX3_partsOfKind 1 (some .int)) (cRm S 1 20) (cPcZ tk G S Hs [.int x]) (cQi G S Hs (fun v u => AW [] [] S u ∧ (u = S ∧ v = p_parts x))) (CC - PT S) (12 * (CC - PT S)) (cA G S Hs.size) := by
  refine Met.conv (c_partsOfKind l (gD G).1 (gD G).2 (gI G) tk x Hs.size) (fun w h => (show ∀ w ∈ wsX3_partsOfKind, w ∈ (wC yX3_partsOfKind cX3_partsOfKind 1 (some .int)) from fun w h => List.mem_cons_of_mem _ ((List.forall_mem_cons.mpr ⟨C_182, (List.forall_mem_cons.mpr ⟨C_170, (List.forall_mem_cons.mpr ⟨C_183, (List.forall_mem_cons.mpr ⟨C_168, (List.forall_mem_cons.mpr ⟨C_6, (List.forall_mem_cons.mpr ⟨C_169, cm_0⟩)⟩)⟩)⟩)⟩)⟩) w h)) w h) (Nat.le_refl _) (Nat.le_refl _) (Nat.zero_le _) (Nat.zero_le _) (Nat.zero_le _) (Nat.zero_le _) ?_ ?_ va_A0
  · rintro a s ⟨e0, e1, hP, hK, hD, -, hZ⟩
    exact ⟨e0, by rw [e1], fun k q h => by simp at h, cK_i hK, va_D0, hZ.nar va_A0⟩
  · rintro a s o t hpc ⟨⟨v, u0, eo, hv, hP1, hK1, hD1⟩, hF⟩ ⟨L, hE⟩
    exact ⟨⟨v, S, eo, ⟨AW.rf, rfl, hv⟩, cB_of [] (cPcZ_c hpc) hF hE hP1 hD1 rfl (fun j e h => by simp at h) (fun j k h => by simp at h) (fun _ _ => rfl) (Nat.zero_le _) (Nat.zero_le _) (Nat.le_refl _) (cPcZ_c hpc).2.2.2.2.2 HS.rf⟩, hF.1, fun q hq hn => hF.2 q hq (fun h => hn (va_A0 q h))⟩
theorem z_isFitting (l : Launch) (G : cG) (S : cS) (x : Int32) (y : Int32) (hC : CL S) (Hs : Heap) : Met l yX3_isFitting (wC yX3_isFitting cX3_isFitting 2 (some .boolean)) (cRm S 1 20) (cPc G S Hs [.int x, .int y]) (cQi G S Hs (fun v u => AW [] [] S u ∧ (u = S ∧ v = p_fit x y))) (CC - PT S) (12 * (CC - PT S)) (cA G S Hs.size) := by
  refine Met.conv (c_isFitting l (gD G).1 (gD G).2 (gI G) x y Hs.size) (fun w h => (show ∀ w ∈ wsX3_isFitting, w ∈ (wC yX3_isFitting cX3_isFitting 2 (some .boolean)) from fun w h => List.mem_cons_of_mem _ ((List.forall_mem_cons.mpr ⟨C_173, (List.forall_mem_cons.mpr ⟨C_174, (List.forall_mem_cons.mpr ⟨C_175, (List.forall_mem_cons.mpr ⟨C_6, (List.forall_mem_cons.mpr ⟨C_176, (List.forall_mem_cons.mpr ⟨C_177, (List.forall_mem_cons.mpr ⟨C_178, (List.forall_mem_cons.mpr ⟨C_179, cm_0⟩)⟩)⟩)⟩)⟩)⟩)⟩)⟩) w h)) w h) (Nat.le_refl _) (Nat.le_refl _) (Nat.zero_le _) (Nat.zero_le _) (Nat.zero_le _) (Nat.zero_le _) ?_ ?_ va_A0
  · rintro a s ⟨e0, e1, hP, hK, hD, -⟩
    exact ⟨e0, by rw [e1], fun k q h => by simp at h, cK_i hK, va_D0⟩
  · rintro a s o t hpc ⟨⟨v, u0, eo, hv, hP1, hK1, hD1⟩, hF⟩ ⟨L, hE⟩
    exact ⟨⟨v, S, eo, ⟨AW.rf, rfl, hv⟩, cB_of [] (hpc) hF hE hP1 hD1 rfl (fun j e h => by simp at h) (fun j k h => by simp at h) (fun _ _ => rfl) (Nat.zero_le _) (Nat.zero_le _) (Nat.le_refl _) (hpc).2.2.2.2.2 HS.rf⟩, hF.1, fun q hq hn => hF.2 q hq (fun h => hn (va_A0 q h))⟩
theorem z_hasLetter (l : Launch) (G : cG) (S : cS) (x : Int32) (hC : CL S) (Hs : Heap) : Met l yX3_hasLetter (wC yX3_hasLetter cX3_hasLetter 1 (some .boolean)) (cRm S 0 0) (cPc G S Hs [.int x]) (cQi G S Hs (fun v u => AW [] [] S u ∧ (u = S ∧ v = p_hasL x))) (CC - PT S) (12 * (CC - PT S)) (cA G S Hs.size) := by
  refine Met.conv (c_hasLetter l (gD G).1 (gD G).2 (gI G) x Hs.size) (fun w h => (show ∀ w ∈ wsX3_hasLetter, w ∈ (wC yX3_hasLetter cX3_hasLetter 1 (some .boolean)) from fun w h => List.mem_cons_of_mem _ ((List.forall_mem_cons.mpr ⟨C_176, cm_0⟩) w h)) w h) (Nat.le_refl _) (Nat.le_refl _) (Nat.zero_le _) (Nat.zero_le _) (Nat.zero_le _) (Nat.zero_le _) ?_ ?_ va_A0
  · rintro a s ⟨e0, e1, hP, hK, hD, -⟩
    exact ⟨e0, by rw [e1], fun k q h => by simp at h, cK_i hK, va_D0⟩
  · rintro a s o t hpc ⟨⟨v, u0, eo, hv, hP1, hK1, hD1⟩, hF⟩ ⟨L, hE⟩
    exact ⟨⟨v, S, eo, ⟨AW.rf, rfl, hv⟩, cB_of [] (hpc) hF hE hP1 hD1 rfl (fun j e h => by simp at h) (fun j k h => by simp at h) (fun _ _ => rfl) (Nat.zero_le _) (Nat.zero_le _) (Nat.le_refl _) (hpc).2.2.2.2.2 HS.rf⟩, hF.1, fun q hq hn => hF.2 q hq (fun h => hn (va_A0 q h))⟩
theorem z_isLetter (l : Launch) (G : cG) (S : cS) (x : Int32) (hC : CL S) (Hs : Heap) : Met l yX3_isLetter (wC yX3_isLetter cX3_isLetter 1 (some .boolean)) (cRm S 0 0) (cPc G S Hs [.int x]) (cQi G S Hs (fun v u => AW [] [] S u ∧ (u = S ∧ v = p_isL x))) (CC - PT S) (12 * (CC - PT S)) (cA G S Hs.size) := by
  refine Met.conv (c_isLetter l (gD G).1 (gD G).2 (gI G) x Hs.size) (fun w h => (show ∀ w ∈ wsX3_isLetter, w ∈ (wC yX3_isLetter cX3_isLetter 1 (some .boolean)) from fun w h => List.mem_cons_of_mem _ ((List.forall_mem_cons.mpr ⟨C_179, cm_0⟩) w h)) w h) (Nat.le_refl _) (Nat.le_refl _) (Nat.zero_le _) (Nat.zero_le _) (Nat.zero_le _) (Nat.zero_le _) ?_ ?_ va_A0
  · rintro a s ⟨e0, e1, hP, hK, hD, -⟩
    exact ⟨e0, by rw [e1], fun k q h => by simp at h, cK_i hK, va_D0⟩
  · rintro a s o t hpc ⟨⟨v, u0, eo, hv, hP1, hK1, hD1⟩, hF⟩ ⟨L, hE⟩
    exact ⟨⟨v, S, eo, ⟨AW.rf, rfl, hv⟩, cB_of [] (hpc) hF hE hP1 hD1 rfl (fun j e h => by simp at h) (fun j k h => by simp at h) (fun _ _ => rfl) (Nat.zero_le _) (Nat.zero_le _) (Nat.le_refl _) (hpc).2.2.2.2.2 HS.rf⟩, hF.1, fun q hq hn => hF.2 q hq (fun h => hn (va_A0 q h))⟩

