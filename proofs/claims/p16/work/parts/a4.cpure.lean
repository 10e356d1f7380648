/-! ===== the class: what stays, by lists; single numbers put; rows by any name ===== -/
theorem lt35 {r n : Nat} (h : r < 35) : r < 35 + n := Nat.lt_of_lt_of_le h (Nat.le_add_right _ _)
def cO (S : cS) (k : Nat) (x : Int32) : cS := (upd S.1 k x, S.2)
theorem cO_s {S : cS} {k : Nat} {x : Int32} : (cO S k x).1 k = x := upd_s
theorem cO_n {S : cS} {k j : Nat} {x : Int32} (h : j ≠ k) : (cO S k x).1 j = S.1 j := upd_n h
def cT (S : cS) (x : Nat) : cS := (S.1, S.2.1, fun t a => if t = 4 then (if a = 1 then x else S.2.2 4 a) else S.2.2 t a)
/-- u is S but for rows rs (35: all rows of bounds) and numbers is (300: whose signs) -/
def AW (rs is : List Nat) (S u : cS) : Prop := (∀ k, k ∉ is → u.1 k = S.1 k) ∧ (∀ r, r < 35 + kB S → min r 35 ∉ rs → kF u r = kF S r ∧ kK u r = kK S r) ∧ (300 ∉ is → kT u = kT S) ∧ kB S ≤ kB u ∧ ∀ k, 400 ≤ k → k < 403 → k - 200 ∉ is → kF u k = kF S k
theorem AW.rf {rs is : List Nat} {S : cS} : AW rs is S S := ⟨fun _ _ => rfl, fun _ _ _ => ⟨rfl, rfl⟩, fun _ => rfl, Nat.le_refl _, fun _ _ _ _ => rfl⟩
theorem AW.tr {rs is : List Nat} {S u w : cS} (h : AW rs is S u) (h' : AW rs is u w) : AW rs is S w := ⟨fun k hk => (h'.1 k hk).trans (h.1 k hk), fun r hr hk => by
  obtain ⟨a, b⟩ := h.2.1 r hr hk
  obtain ⟨c, d⟩ := h'.2.1 r (by have := h.2.2.2.1; omega) hk
  exact ⟨c.trans a, d.trans b⟩, fun hk => (h'.2.2.1 hk).trans (h.2.2.1 hk), Nat.le_trans h.2.2.2.1 h'.2.2.2.1, fun k h1 h2 h3 => (h'.2.2.2.2 k h1 h2 h3).trans (h.2.2.2.2 k h1 h2 h3)⟩
theorem AW.mono {rs is rs' is' : List Nat} {S u : cS} (h : AW rs is S u) (h1 : ∀ k ∈ rs, k ∈ rs') (h2 : ∀ k ∈ is, k ∈ is') : AW rs' is' S u := ⟨fun k hk => h.1 k (fun z => hk (h2 k z)), fun r hr hk => h.2.1 r hr (fun z => hk (h1 _ z)), fun hk => h.2.2.1 (fun z => hk (h2 _ z)), h.2.2.2.1, fun k g1 g2 g3 => h.2.2.2.2 k g1 g2 (fun z => g3 (h2 _ z))⟩
theorem AW.o {rs is : List Nat} {S u : cS} {k : Nat} {x : Int32} (h : AW rs is S u) (hk : k ∈ is) : AW rs is S (cO u k x) := ⟨fun j hj => by
  have hne : j ≠ k := fun z => hj (by rw [z]; exact hk)
  exact (upd_n hne).trans (h.1 j hj), h.2⟩
theorem AW.t {rs is : List Nat} {S u : cS} {x : Nat} (h : AW rs is S u) (hk : 300 ∈ is) : AW rs is S (cT u x) := ⟨h.1, h.2.1, fun z => absurd hk z, h.2.2.2⟩
theorem AW.u {rs is : List Nat} {S : cS} {r k n q : Nat} {f : Nat → Int32} (hr : min r 35 ∈ rs) (hr4 : r < 400 := by first | decide | omega) : AW rs is S (uR S r k n q f) := ⟨fun _ _ => rfl, fun x _ hk => by
  have : x ≠ r := fun z => hk (z ▸ hr)
  exact ⟨uR_Fo this, uR_Ko this⟩, fun _ => rfl, Nat.le_refl _, fun k h1 h2 h3 => uR_Fo (by omega)⟩
theorem c_hv {a b : Nat} (h : a = b) : some (Value.ref a) = some (Value.ref b) := by rw [h]
theorem c_hd {G : cG} {S : cS} {q a b : Nat} {e : va_E} (h : a = b) (h2 : (cW G S)[q]? = some (a, e)) : (cW G S)[q]? = some (b, e) := by rw [← h]; exact h2
theorem rcut_0 (k : Nat) (hk : k < 2 ^ 31) : rcut k 0 = 0 := by
  unfold rcut
  rw [if_neg (by decide)]
  by_cases h : nI k ≤ 0
  · rw [if_pos h]
    rw [i_le, nI_toInt hk] at h
    have e0 : (0 : Int32).toInt = 0 := rfl
    omega
  · rw [if_neg h]
    rfl
theorem rcut_le2 {k i : Nat} (h : i ≤ k) (hk : k < 2 ^ 31) : rcut k (nI i) = i := by
  unfold rcut
  rw [if_neg (nI_n0 (by omega))]
  by_cases h2 : nI k ≤ nI i
  · rw [if_pos h2]
    rw [i_le, nI_toInt hk, nI_toInt (by omega)] at h2
    omega
  · rw [if_neg h2, nI_clamp (by omega)]
theorem lim_0 : lim 0 = 120 := by decide
theorem lim_1 : lim 1 = 120 := by decide
theorem lim_2 : lim 2 = 120 := by decide
theorem lim_3 : lim 3 = 120 := by decide
theorem lim_4 : lim 4 = 720 := by decide
theorem lim_5 : lim 5 = 720 := by decide
theorem lim_6 : lim 6 = 602 := by decide
theorem lim_7 : lim 7 = 602 := by decide
theorem lim_8 : lim 8 = 602 := by decide
theorem lim_9 : lim 9 = 602 := by decide
theorem lim_10 : lim 10 = 3700 := by decide
theorem lim_11 : lim 11 = 3700 := by decide
theorem lim_12 : lim 12 = 1000 := by decide
theorem lim_13 : lim 13 = 1000 := by decide
theorem lim_14 : lim 14 = 150 := by decide
theorem lim_16 : lim 16 = 602 := by decide
theorem lim_17 : lim 17 = 1501 := by decide
theorem lim_18 : lim 18 = 1501 := by decide
theorem lim_19 : lim 19 = 500 := by decide
theorem lim_20 : lim 20 = 500 := by decide
theorem lim_21 : lim 21 = 500 := by decide
theorem lim_27 : lim 27 = 301 := by decide
theorem lim_28 : lim 28 = 301 := by decide
theorem lim_29 : lim 29 = 301 := by decide
theorem lim_30 : lim 30 = 1900 := by decide
theorem lim_31 : lim 31 = 301 := by decide
theorem lim_32 : lim 32 = 301 := by decide
theorem lim_33 : lim 33 = 301 := by decide
theorem lim_34 : lim 34 = 301 := by decide
theorem lim_b {r : Nat} (h : 35 ≤ r) : lim r = 1700 := by
  unfold lim
  rw [if_neg (show ¬ r < 4 by omega), if_neg (show ¬ r < 6 by omega), if_neg (show ¬ r < 10 by omega), if_neg (show ¬ r < 12 by omega), if_neg (show ¬ r < 14 by omega), if_neg (show ¬ r < 15 by omega), if_neg (show ¬ r < 16 by omega), if_neg (show ¬ r < 17 by omega), if_neg (show ¬ r < 19 by omega), if_neg (show ¬ r < 22 by omega), if_neg (show ¬ r < 23 by omega), if_neg (show ¬ r < 25 by omega), if_neg (show ¬ r < 27 by omega), if_neg (show ¬ r < 30 by omega), if_neg (show ¬ r < 31 by omega), if_neg (show ¬ r < 35 by omega)]
theorem c_getA (l : Launch) (G : cG) (S : cS) (r : Nat) (hr : r < 35 + kB S) (hC : CL S) (h0 : Nat) (ha : kH S r = h0) (i : Int32) (Hs : Heap) : Met l yX0_get (wC yX0_get cX0_get 2 (some .int)) (cRm S 0 0) (cPc G S Hs [.ref h0, .int i]) (cQi G S Hs (fun v u => u = S ∧ v = rget (kF S r) (kK S r) i)) (CC - PT S) (12 * (CC - PT S)) (cA G S Hs.size) := by
  subst ha
  exact c_get l G S r hr hC i Hs
theorem c_holdsA (l : Launch) (G : cG) (S : cS) (r : Nat) (hr : r < 35 + kB S) (hC : CL S) (h0 : Nat) (ha : kH S r = h0) (i : Int32) (Hs : Heap) : Met l yX0_holds (wC yX0_holds cX0_holds 2 (some .boolean)) (cRm S 0 0) (cPc G S Hs [.ref h0, .int i]) (cQi G S Hs (fun v u => u = S ∧ v = rholds (kK S r) i)) (CC - PT S) (12 * (CC - PT S)) (cA G S Hs.size) := by
  subst ha
  exact c_holds l G S r hr hC i Hs
theorem c_setA (l : Launch) (G : cG) (S : cS) (r : Nat) (hr : r < 35 + kB S) (hC : CL S) (h0 : Nat) (ha : kH S r = h0) (i : Int32) (x : Int32) (Hs : Heap) : Met l yX0_set (wC yX0_set cX0_set 3 none) (cRm S 0 0) (cPc G S Hs [.ref h0, .int i, .int x]) (cQv G S Hs (fun u => u = uR S r (kK S r) (kN S r) (kQ S r) (rset (kF S r) (kK S r) i x))) (CC - PT S) (12 * (CC - PT S)) (cA G S Hs.size) := by
  subst ha
  exact c_set l G S r hr hC i x Hs
theorem c_addA (l : Launch) (G : cG) (S : cS) (r : Nat) (hr : r < 35 + kB S) (hC : CL S) (h0 : Nat) (ha : kH S r = h0) (x : Int32) (hlt : kK S r < lim r) (Hs : Heap) : Met l yX0_add (wC yX0_add cX0_add 2 none) (cRm S 2 82) (cPc G S Hs [.ref h0, .int x]) (cQv G S Hs (fun u => ∃ n q g, u = uR S r (kK S r + 1) n q g ∧ (∀ j, j < kK S r → g j = kF S r j) ∧ g (kK S r) = x)) (CC - PT S) (12 * (CC - PT S)) (cA G S Hs.size) := by
  subst ha
  exact c_add l G S r hr hC x hlt Hs
theorem c_cutA (l : Launch) (G : cG) (S : cS) (r : Nat) (hr : r < 35 + kB S) (hC : CL S) (h0 : Nat) (ha : kH S r = h0) (i : Int32) (Hs : Heap) : Met l yX0_cutTo (wC yX0_cutTo cX0_cutTo 2 none) (cRm S 0 0) (cPc G S Hs [.ref h0, .int i]) (cQv G S Hs (fun u => u = uR S r (rcut (kK S r) i) (kN S r) (kQ S r) (kF S r))) (CC - PT S) (12 * (CC - PT S)) (cA G S Hs.size) := by
  subst ha
  exact c_cut l G S r hr hC i Hs
section CI
variable {p : Program} {l : Launch} {e : Env} {R : Room} {s : State} {m : MethodId} {args : Array Value} {below : List Frame} {meth : Method} {c : Code} {H : Heap} {locs : List Loc} {Q : State → Prop}
variable {cc : ByteArray} {pc index : Nat} {ls : Array Slot} {rest : List Value} {Ts : List Cond} {G : cG} {S S1 S2 : cS} {g : JFrame}
theorem c_ent (kk : W p l e R s m args below meth c H locs (PT S - PT S) (12 * (PT S - PT S)) Q g) : W p l e R s m args below meth c H locs 0 0 Q g := by
  rw [Nat.sub_self] at kk
  exact kk
theorem c_eq (h : PT S1 = PT S2) (kk : W p l e R s m args below meth c H locs (PT S2 - PT S) (12 * (PT S2 - PT S)) Q g) : W p l e R s m args below meth c H locs (PT S1 - PT S) (12 * (PT S1 - PT S)) Q g := by
  rw [h]
  exact kk
theorem c_b1 (hpp : PT S ≤ PT S1) (hC : CL S1) : PT S1 - PT S ≤ CC - PT S := by
  have := hC.pp
  omega
theorem c_b2 (hpp : PT S ≤ PT S1) (hC : CL S1) : 12 * (PT S1 - PT S) ≤ 12 * (CC - PT S) := by
  have := hC.pp
  omega
theorem cset {q : Nat} {e : Nat × va_E} (h1 : kB S2 = kB S1) (h2 : e = cE G S2 q) (h3 : ∀ k, k ≠ q → cE G S2 k = cE G S1 k) : (cW G S1).set q e = cW G S2 := by
  apply List.ext_getElem?
  intro k
  rcases Nat.lt_or_ge k (83 + 2 * kB S1) with hk | hk
  · by_cases e1 : k = q
    · subst e1
      rw [List.getElem?_set_self (by unfold cW; simpa using hk), cW_at (by omega), h2]
    · rw [List.getElem?_set_ne (fun z => e1 z.symm), cW_at hk, cW_at (by omega), h3 k e1]
  · rw [List.getElem?_eq_none (by unfold cW; simpa using hk), List.getElem?_eq_none (by unfold cW; simpa [h1] using hk)]
theorem c_put4_8 (hx : p.tables.exec = Jvm.exec) (hb : c.code = cc) {own : String} (hts : ∀ w ∈ CU, w.before args s = true) (hown : s.vm.findClass own = some m.cls) (hK : cK G s) (hP : cP G S1 H) (hD : cD (cA G S s.heap.size) G S1) (hS : va_S (cA G S s.heap.size) s.heap H locs) (hlink : (Cond.fieldLink own index RX5 (TX5 8).2.1 (TX5 8).2.2.1).before args s = true) {x : Int32} (hdg : decode cc pc = .ok (.putfield index, 3)) {cells slots : Nat}
    (kk : ∀ (H : Heap) (locs : List Loc), cP G (cO S1 8 x) H → cD (cA G S s.heap.size) G (cO S1 8 x) → va_S (cA G S s.heap.size) s.heap H locs → W p l e R s m args below meth c H locs cells slots Q (F0 m (pc + 3) ls rest)) : W p l e R s m args below meth c H locs cells slots Q (F0 m pc ls (.int x :: .ref (ga G 4) :: rest)) := by
  have hset : (cW G S1).set 4 (ga G 4, .inr (5, ((oTyping G S1).set 8 (.int x)))) = cW G (cO S1 8 x) := cset rfl rfl (fun k hk => match k, hk with | 0, h => rfl | 1, h => rfl | 2, h => rfl | 3, h => rfl | 4, h => absurd rfl h | 5, h => rfl | 6, h => rfl | 7, h => rfl | 8, h => rfl | 9, h => rfl | 10, h => rfl | 11, h => rfl | 12, h => rfl | _ + 13, _ => rfl)
  refine va_put (D := gD G) (ci := 5) (C := RX5) (T := TX5) (N := 15) (ref := RX5) (ty := .int) hx hb hts cu_in5 tyX5 tyX5_ok nmX5 hown hK hP hD hS 4 cw_4 rfl 8 (by decide) hlink (fun _ h9 => h9) (by decide) (by decide +kernel) rfl rfl (Nat.le_of_ble_eq_true rfl) hdg (fun H1 l1 hP1 hD1 hS1 => ?_)
  rw [hset] at hP1 hD1
  exact kk H1 l1 hP1 hD1 hS1
theorem c_put4_9 (hx : p.tables.exec = Jvm.exec) (hb : c.code = cc) {own : String} (hts : ∀ w ∈ CU, w.before args s = true) (hown : s.vm.findClass own = some m.cls) (hK : cK G s) (hP : cP G S1 H) (hD : cD (cA G S s.heap.size) G S1) (hS : va_S (cA G S s.heap.size) s.heap H locs) (hlink : (Cond.fieldLink own index RX5 (TX5 9).2.1 (TX5 9).2.2.1).before args s = true) {x : Int32} (hdg : decode cc pc = .ok (.putfield index, 3)) {cells slots : Nat}
    (kk : ∀ (H : Heap) (locs : List Loc), cP G (cO S1 9 x) H → cD (cA G S s.heap.size) G (cO S1 9 x) → va_S (cA G S s.heap.size) s.heap H locs → W p l e R s m args below meth c H locs cells slots Q (F0 m (pc + 3) ls rest)) : W p l e R s m args below meth c H locs cells slots Q (F0 m pc ls (.int x :: .ref (ga G 4) :: rest)) := by
  have hset : (cW G S1).set 4 (ga G 4, .inr (5, ((oTyping G S1).set 9 (.int x)))) = cW G (cO S1 9 x) := cset rfl rfl (fun k hk => match k, hk with | 0, h => rfl | 1, h => rfl | 2, h => rfl | 3, h => rfl | 4, h => absurd rfl h | 5, h => rfl | 6, h => rfl | 7, h => rfl | 8, h => rfl | 9, h => rfl | 10, h => rfl | 11, h => rfl | 12, h => rfl | _ + 13, _ => rfl)
  refine va_put (D := gD G) (ci := 5) (C := RX5) (T := TX5) (N := 15) (ref := RX5) (ty := .int) hx hb hts cu_in5 tyX5 tyX5_ok nmX5 hown hK hP hD hS 4 cw_4 rfl 9 (by decide) hlink (fun _ h9 => h9) (by decide) (by decide +kernel) rfl rfl (Nat.le_of_ble_eq_true rfl) hdg (fun H1 l1 hP1 hD1 hS1 => ?_)
  rw [hset] at hP1 hD1
  exact kk H1 l1 hP1 hD1 hS1
theorem c_put4_10 (hx : p.tables.exec = Jvm.exec) (hb : c.code = cc) {own : String} (hts : ∀ w ∈ CU, w.before args s = true) (hown : s.vm.findClass own = some m.cls) (hK : cK G s) (hP : cP G S1 H) (hD : cD (cA G S s.heap.size) G S1) (hS : va_S (cA G S s.heap.size) s.heap H locs) (hlink : (Cond.fieldLink own index RX5 (TX5 10).2.1 (TX5 10).2.2.1).before args s = true) {x : Int32} (hdg : decode cc pc = .ok (.putfield index, 3)) {cells slots : Nat}
    (kk : ∀ (H : Heap) (locs : List Loc), cP G (cO S1 10 x) H → cD (cA G S s.heap.size) G (cO S1 10 x) → va_S (cA G S s.heap.size) s.heap H locs → W p l e R s m args below meth c H locs cells slots Q (F0 m (pc + 3) ls rest)) : W p l e R s m args below meth c H locs cells slots Q (F0 m pc ls (.int x :: .ref (ga G 4) :: rest)) := by
  have hset : (cW G S1).set 4 (ga G 4, .inr (5, ((oTyping G S1).set 10 (.int x)))) = cW G (cO S1 10 x) := cset rfl rfl (fun k hk => match k, hk with | 0, h => rfl | 1, h => rfl | 2, h => rfl | 3, h => rfl | 4, h => absurd rfl h | 5, h => rfl | 6, h => rfl | 7, h => rfl | 8, h => rfl | 9, h => rfl | 10, h => rfl | 11, h => rfl | 12, h => rfl | _ + 13, _ => rfl)
  refine va_put (D := gD G) (ci := 5) (C := RX5) (T := TX5) (N := 15) (ref := RX5) (ty := .int) hx hb hts cu_in5 tyX5 tyX5_ok nmX5 hown hK hP hD hS 4 cw_4 rfl 10 (by decide) hlink (fun _ h9 => h9) (by decide) (by decide +kernel) rfl rfl (Nat.le_of_ble_eq_true rfl) hdg (fun H1 l1 hP1 hD1 hS1 => ?_)
  rw [hset] at hP1 hD1
  exact kk H1 l1 hP1 hD1 hS1
theorem c_put4_11 (hx : p.tables.exec = Jvm.exec) (hb : c.code = cc) {own : String} (hts : ∀ w ∈ CU, w.before args s = true) (hown : s.vm.findClass own = some m.cls) (hK : cK G s) (hP : cP G S1 H) (hD : cD (cA G S s.heap.size) G S1) (hS : va_S (cA G S s.heap.size) s.heap H locs) (hlink : (Cond.fieldLink own index RX5 (TX5 11).2.1 (TX5 11).2.2.1).before args s = true) {x : Int32} (hdg : decode cc pc = .ok (.putfield index, 3)) {cells slots : Nat}
    (kk : ∀ (H : Heap) (locs : List Loc), cP G (cO S1 11 x) H → cD (cA G S s.heap.size) G (cO S1 11 x) → va_S (cA G S s.heap.size) s.heap H locs → W p l e R s m args below meth c H locs cells slots Q (F0 m (pc + 3) ls rest)) : W p l e R s m args below meth c H locs cells slots Q (F0 m pc ls (.int x :: .ref (ga G 4) :: rest)) := by
  have hset : (cW G S1).set 4 (ga G 4, .inr (5, ((oTyping G S1).set 11 (.int x)))) = cW G (cO S1 11 x) := cset rfl rfl (fun k hk => match k, hk with | 0, h => rfl | 1, h => rfl | 2, h => rfl | 3, h => rfl | 4, h => absurd rfl h | 5, h => rfl | 6, h => rfl | 7, h => rfl | 8, h => rfl | 9, h => rfl | 10, h => rfl | 11, h => rfl | 12, h => rfl | _ + 13, _ => rfl)
  refine va_put (D := gD G) (ci := 5) (C := RX5) (T := TX5) (N := 15) (ref := RX5) (ty := .int) hx hb hts cu_in5 tyX5 tyX5_ok nmX5 hown hK hP hD hS 4 cw_4 rfl 11 (by decide) hlink (fun _ h9 => h9) (by decide) (by decide +kernel) rfl rfl (Nat.le_of_ble_eq_true rfl) hdg (fun H1 l1 hP1 hD1 hS1 => ?_)
  rw [hset] at hP1 hD1
  exact kk H1 l1 hP1 hD1 hS1
theorem c_put4_12 (hx : p.tables.exec = Jvm.exec) (hb : c.code = cc) {own : String} (hts : ∀ w ∈ CU, w.before args s = true) (hown : s.vm.findClass own = some m.cls) (hK : cK G s) (hP : cP G S1 H) (hD : cD (cA G S s.heap.size) G S1) (hS : va_S (cA G S s.heap.size) s.heap H locs) (hlink : (Cond.fieldLink own index RX5 (TX5 12).2.1 (TX5 12).2.2.1).before args s = true) {x : Int32} (hdg : decode cc pc = .ok (.putfield index, 3)) {cells slots : Nat}
    (kk : ∀ (H : Heap) (locs : List Loc), cP G (cO S1 12 x) H → cD (cA G S s.heap.size) G (cO S1 12 x) → va_S (cA G S s.heap.size) s.heap H locs → W p l e R s m args below meth c H locs cells slots Q (F0 m (pc + 3) ls rest)) : W p l e R s m args below meth c H locs cells slots Q (F0 m pc ls (.int x :: .ref (ga G 4) :: rest)) := by
  have hset : (cW G S1).set 4 (ga G 4, .inr (5, ((oTyping G S1).set 12 (.int x)))) = cW G (cO S1 12 x) := cset rfl rfl (fun k hk => match k, hk with | 0, h => rfl | 1, h => rfl | 2, h => rfl | 3, h => rfl | 4, h => absurd rfl h | 5, h => rfl | 6, h => rfl | 7, h => rfl | 8, h => rfl | 9, h => rfl | 10, h => rfl | 11, h => rfl | 12, h => rfl | _ + 13, _ => rfl)
  refine va_put (D := gD G) (ci := 5) (C := RX5) (T := TX5) (N := 15) (ref := RX5) (ty := .int) hx hb hts cu_in5 tyX5 tyX5_ok nmX5 hown hK hP hD hS 4 cw_4 rfl 12 (by decide) hlink (fun _ h9 => h9) (by decide) (by decide +kernel) rfl rfl (Nat.le_of_ble_eq_true rfl) hdg (fun H1 l1 hP1 hD1 hS1 => ?_)
  rw [hset] at hP1 hD1
  exact kk H1 l1 hP1 hD1 hS1
theorem c_put4_13 (hx : p.tables.exec = Jvm.exec) (hb : c.code = cc) {own : String} (hts : ∀ w ∈ CU, w.before args s = true) (hown : s.vm.findClass own = some m.cls) (hK : cK G s) (hP : cP G S1 H) (hD : cD (cA G S s.heap.size) G S1) (hS : va_S (cA G S s.heap.size) s.heap H locs) (hlink : (Cond.fieldLink own index RX5 (TX5 13).2.1 (TX5 13).2.2.1).before args s = true) {x : Int32} (hdg : decode cc pc = .ok (.putfield index, 3)) {cells slots : Nat}
    (kk : ∀ (H : Heap) (locs : List Loc), cP G (cO S1 13 x) H → cD (cA G S s.heap.size) G (cO S1 13 x) → va_S (cA G S s.heap.size) s.heap H locs → W p l e R s m args below meth c H locs cells slots Q (F0 m (pc + 3) ls rest)) : W p l e R s m args below meth c H locs cells slots Q (F0 m pc ls (.int x :: .ref (ga G 4) :: rest)) := by
  have hset : (cW G S1).set 4 (ga G 4, .inr (5, ((oTyping G S1).set 13 (.int x)))) = cW G (cO S1 13 x) := cset rfl rfl (fun k hk => match k, hk with | 0, h => rfl | 1, h => rfl | 2, h => rfl | 3, h => rfl | 4, h => absurd rfl h | 5, h => rfl | 6, h => rfl | 7, h => rfl | 8, h => rfl | 9, h => rfl | 10, h => rfl | 11, h => rfl | 12, h => rfl | _ + 13, _ => rfl)
  refine va_put (D := gD G) (ci := 5) (C := RX5) (T := TX5) (N := 15) (ref := RX5) (ty := .int) hx hb hts cu_in5 tyX5 tyX5_ok nmX5 hown hK hP hD hS 4 cw_4 rfl 13 (by decide) hlink (fun _ h9 => h9) (by decide) (by decide +kernel) rfl rfl (Nat.le_of_ble_eq_true rfl) hdg (fun H1 l1 hP1 hD1 hS1 => ?_)
  rw [hset] at hP1 hD1
  exact kk H1 l1 hP1 hD1 hS1
theorem c_put4_14 (hx : p.tables.exec = Jvm.exec) (hb : c.code = cc) {own : String} (hts : ∀ w ∈ CU, w.before args s = true) (hown : s.vm.findClass own = some m.cls) (hK : cK G s) (hP : cP G S1 H) (hD : cD (cA G S s.heap.size) G S1) (hS : va_S (cA G S s.heap.size) s.heap H locs) (hlink : (Cond.fieldLink own index RX5 (TX5 14).2.1 (TX5 14).2.2.1).before args s = true) {x : Int32} (hdg : decode cc pc = .ok (.putfield index, 3)) {cells slots : Nat}
    (kk : ∀ (H : Heap) (locs : List Loc), cP G (cO S1 14 x) H → cD (cA G S s.heap.size) G (cO S1 14 x) → va_S (cA G S s.heap.size) s.heap H locs → W p l e R s m args below meth c H locs cells slots Q (F0 m (pc + 3) ls rest)) : W p l e R s m args below meth c H locs cells slots Q (F0 m pc ls (.int x :: .ref (ga G 4) :: rest)) := by
  have hset : (cW G S1).set 4 (ga G 4, .inr (5, ((oTyping G S1).set 14 (.int x)))) = cW G (cO S1 14 x) := cset rfl rfl (fun k hk => match k, hk with | 0, h => rfl | 1, h => rfl | 2, h => rfl | 3, h => rfl | 4, h => absurd rfl h | 5, h => rfl | 6, h => rfl | 7, h => rfl | 8, h => rfl | 9, h => rfl | 10, h => rfl | 11, h => rfl | 12, h => rfl | _ + 13, _ => rfl)
  refine va_put (D := gD G) (ci := 5) (C := RX5) (T := TX5) (N := 15) (ref := RX5) (ty := .int) hx hb hts cu_in5 tyX5 tyX5_ok nmX5 hown hK hP hD hS 4 cw_4 rfl 14 (by decide) hlink (fun _ h9 => h9) (by decide) (by decide +kernel) rfl rfl (Nat.le_of_ble_eq_true rfl) hdg (fun H1 l1 hP1 hD1 hS1 => ?_)
  rw [hset] at hP1 hD1
  exact kk H1 l1 hP1 hD1 hS1
theorem c_put5_10 (hx : p.tables.exec = Jvm.exec) (hb : c.code = cc) {own : String} (hts : ∀ w ∈ CU, w.before args s = true) (hown : s.vm.findClass own = some m.cls) (hK : cK G s) (hP : cP G S1 H) (hD : cD (cA G S s.heap.size) G S1) (hS : va_S (cA G S s.heap.size) s.heap H locs) (hlink : (Cond.fieldLink own index RX6 (TX6 10).2.1 (TX6 10).2.2.1).before args s = true) {x : Int32} (hdg : decode cc pc = .ok (.putfield index, 3)) {cells slots : Nat}
    (kk : ∀ (H : Heap) (locs : List Loc), cP G (cO S1 110 x) H → cD (cA G S s.heap.size) G (cO S1 110 x) → va_S (cA G S s.heap.size) s.heap H locs → W p l e R s m args below meth c H locs cells slots Q (F0 m (pc + 3) ls rest)) : W p l e R s m args below meth c H locs cells slots Q (F0 m pc ls (.int x :: .ref (ga G 5) :: rest)) := by
  have hset : (cW G S1).set 5 (ga G 5, .inr (6, ((oWorking G S1).set 10 (.int x)))) = cW G (cO S1 110 x) := cset rfl rfl (fun k hk => match k, hk with | 0, h => rfl | 1, h => rfl | 2, h => rfl | 3, h => rfl | 4, h => rfl | 5, h => absurd rfl h | 6, h => rfl | 7, h => rfl | 8, h => rfl | 9, h => rfl | 10, h => rfl | 11, h => rfl | 12, h => rfl | _ + 13, _ => rfl)
  refine va_put (D := gD G) (ci := 6) (C := RX6) (T := TX6) (N := 14) (ref := RX6) (ty := .int) hx hb hts cu_in6 tyX6 tyX6_ok nmX6 hown hK hP hD hS 5 cw_5 rfl 10 (by decide) hlink (fun _ h9 => h9) (by decide) (by decide +kernel) rfl rfl (Nat.le_of_ble_eq_true rfl) hdg (fun H1 l1 hP1 hD1 hS1 => ?_)
  rw [hset] at hP1 hD1
  exact kk H1 l1 hP1 hD1 hS1
theorem c_put5_11 (hx : p.tables.exec = Jvm.exec) (hb : c.code = cc) {own : String} (hts : ∀ w ∈ CU, w.before args s = true) (hown : s.vm.findClass own = some m.cls) (hK : cK G s) (hP : cP G S1 H) (hD : cD (cA G S s.heap.size) G S1) (hS : va_S (cA G S s.heap.size) s.heap H locs) (hlink : (Cond.fieldLink own index RX6 (TX6 11).2.1 (TX6 11).2.2.1).before args s = true) {x : Int32} (hdg : decode cc pc = .ok (.putfield index, 3)) {cells slots : Nat}
    (kk : ∀ (H : Heap) (locs : List Loc), cP G (cO S1 111 x) H → cD (cA G S s.heap.size) G (cO S1 111 x) → va_S (cA G S s.heap.size) s.heap H locs → W p l e R s m args below meth c H locs cells slots Q (F0 m (pc + 3) ls rest)) : W p l e R s m args below meth c H locs cells slots Q (F0 m pc ls (.int x :: .ref (ga G 5) :: rest)) := by
  have hset : (cW G S1).set 5 (ga G 5, .inr (6, ((oWorking G S1).set 11 (.int x)))) = cW G (cO S1 111 x) := cset rfl rfl (fun k hk => match k, hk with | 0, h => rfl | 1, h => rfl | 2, h => rfl | 3, h => rfl | 4, h => rfl | 5, h => absurd rfl h | 6, h => rfl | 7, h => rfl | 8, h => rfl | 9, h => rfl | 10, h => rfl | 11, h => rfl | 12, h => rfl | _ + 13, _ => rfl)
  refine va_put (D := gD G) (ci := 6) (C := RX6) (T := TX6) (N := 14) (ref := RX6) (ty := .int) hx hb hts cu_in6 tyX6 tyX6_ok nmX6 hown hK hP hD hS 5 cw_5 rfl 11 (by decide) hlink (fun _ h9 => h9) (by decide) (by decide +kernel) rfl rfl (Nat.le_of_ble_eq_true rfl) hdg (fun H1 l1 hP1 hD1 hS1 => ?_)
  rw [hset] at hP1 hD1
  exact kk H1 l1 hP1 hD1 hS1
theorem c_put5_12 (hx : p.tables.exec = Jvm.exec) (hb : c.code = cc) {own : String} (hts : ∀ w ∈ CU, w.before args s = true) (hown : s.vm.findClass own = some m.cls) (hK : cK G s) (hP : cP G S1 H) (hD : cD (cA G S s.heap.size) G S1) (hS : va_S (cA G S s.heap.size) s.heap H locs) (hlink : (Cond.fieldLink own index RX6 (TX6 12).2.1 (TX6 12).2.2.1).before args s = true) {x : Int32} (hdg : decode cc pc = .ok (.putfield index, 3)) {cells slots : Nat}
    (kk : ∀ (H : Heap) (locs : List Loc), cP G (cO S1 112 x) H → cD (cA G S s.heap.size) G (cO S1 112 x) → va_S (cA G S s.heap.size) s.heap H locs → W p l e R s m args below meth c H locs cells slots Q (F0 m (pc + 3) ls rest)) : W p l e R s m args below meth c H locs cells slots Q (F0 m pc ls (.int x :: .ref (ga G 5) :: rest)) := by
  have hset : (cW G S1).set 5 (ga G 5, .inr (6, ((oWorking G S1).set 12 (.int x)))) = cW G (cO S1 112 x) := cset rfl rfl (fun k hk => match k, hk with | 0, h => rfl | 1, h => rfl | 2, h => rfl | 3, h => rfl | 4, h => rfl | 5, h => absurd rfl h | 6, h => rfl | 7, h => rfl | 8, h => rfl | 9, h => rfl | 10, h => rfl | 11, h => rfl | 12, h => rfl | _ + 13, _ => rfl)
  refine va_put (D := gD G) (ci := 6) (C := RX6) (T := TX6) (N := 14) (ref := RX6) (ty := .int) hx hb hts cu_in6 tyX6 tyX6_ok nmX6 hown hK hP hD hS 5 cw_5 rfl 12 (by decide) hlink (fun _ h9 => h9) (by decide) (by decide +kernel) rfl rfl (Nat.le_of_ble_eq_true rfl) hdg (fun H1 l1 hP1 hD1 hS1 => ?_)
  rw [hset] at hP1 hD1
  exact kk H1 l1 hP1 hD1 hS1
theorem c_put5_13 (hx : p.tables.exec = Jvm.exec) (hb : c.code = cc) {own : String} (hts : ∀ w ∈ CU, w.before args s = true) (hown : s.vm.findClass own = some m.cls) (hK : cK G s) (hP : cP G S1 H) (hD : cD (cA G S s.heap.size) G S1) (hS : va_S (cA G S s.heap.size) s.heap H locs) (hlink : (Cond.fieldLink own index RX6 (TX6 13).2.1 (TX6 13).2.2.1).before args s = true) {x : Int32} (hdg : decode cc pc = .ok (.putfield index, 3)) {cells slots : Nat}
    (kk : ∀ (H : Heap) (locs : List Loc), cP G (cO S1 113 x) H → cD (cA G S s.heap.size) G (cO S1 113 x) → va_S (cA G S s.heap.size) s.heap H locs → W p l e R s m args below meth c H locs cells slots Q (F0 m (pc + 3) ls rest)) : W p l e R s m args below meth c H locs cells slots Q (F0 m pc ls (.int x :: .ref (ga G 5) :: rest)) := by
  have hset : (cW G S1).set 5 (ga G 5, .inr (6, ((oWorking G S1).set 13 (.int x)))) = cW G (cO S1 113 x) := cset rfl rfl (fun k hk => match k, hk with | 0, h => rfl | 1, h => rfl | 2, h => rfl | 3, h => rfl | 4, h => rfl | 5, h => absurd rfl h | 6, h => rfl | 7, h => rfl | 8, h => rfl | 9, h => rfl | 10, h => rfl | 11, h => rfl | 12, h => rfl | _ + 13, _ => rfl)
  refine va_put (D := gD G) (ci := 6) (C := RX6) (T := TX6) (N := 14) (ref := RX6) (ty := .int) hx hb hts cu_in6 tyX6 tyX6_ok nmX6 hown hK hP hD hS 5 cw_5 rfl 13 (by decide) hlink (fun _ h9 => h9) (by decide) (by decide +kernel) rfl rfl (Nat.le_of_ble_eq_true rfl) hdg (fun H1 l1 hP1 hD1 hS1 => ?_)
  rw [hset] at hP1 hD1
  exact kk H1 l1 hP1 hD1 hS1
theorem c_put6_1 (hx : p.tables.exec = Jvm.exec) (hb : c.code = cc) {own : String} (hts : ∀ w ∈ CU, w.before args s = true) (hown : s.vm.findClass own = some m.cls) (hK : cK G s) (hP : cP G S1 H) (hD : cD (cA G S s.heap.size) G S1) (hS : va_S (cA G S s.heap.size) s.heap H locs) (hlink : (Cond.fieldLink own index RX1 (TX1 1).2.1 (TX1 1).2.2.1).before args s = true) {x : Int32} (hdg : decode cc pc = .ok (.putfield index, 3)) {cells slots : Nat}
    (kk : ∀ (H : Heap) (locs : List Loc), cP G (cO S1 200 x) H → cD (cA G S s.heap.size) G (cO S1 200 x) → va_S (cA G S s.heap.size) s.heap H locs → W p l e R s m args below meth c H locs cells slots Q (F0 m (pc + 3) ls rest)) : W p l e R s m args below meth c H locs cells slots Q (F0 m pc ls (.int x :: .ref (ga G 6) :: rest)) := by
  have hset : (cW G S1).set 6 (ga G 6, .inr (1, ((oSg0 G S1).set 1 (.int x)))) = cW G (cO S1 200 x) := cset rfl rfl (fun k hk => match k, hk with | 0, h => rfl | 1, h => rfl | 2, h => rfl | 3, h => rfl | 4, h => rfl | 5, h => rfl | 6, h => absurd rfl h | 7, h => rfl | 8, h => rfl | 9, h => rfl | 10, h => rfl | 11, h => rfl | 12, h => rfl | _ + 13, _ => rfl)
  refine va_put (D := gD G) (ci := 1) (C := RX1) (T := TX1) (N := 2) (ref := RX1) (ty := .int) hx hb hts cu_in1 tyX1 tyX1_ok nmX1 hown hK hP hD hS 6 cw_6 rfl 1 (by decide) hlink (fun _ h9 => h9) (by decide) (by decide +kernel) rfl rfl (Nat.le_of_ble_eq_true rfl) hdg (fun H1 l1 hP1 hD1 hS1 => ?_)
  rw [hset] at hP1 hD1
  exact kk H1 l1 hP1 hD1 hS1
theorem c_put7_1 (hx : p.tables.exec = Jvm.exec) (hb : c.code = cc) {own : String} (hts : ∀ w ∈ CU, w.before args s = true) (hown : s.vm.findClass own = some m.cls) (hK : cK G s) (hP : cP G S1 H) (hD : cD (cA G S s.heap.size) G S1) (hS : va_S (cA G S s.heap.size) s.heap H locs) (hlink : (Cond.fieldLink own index RX1 (TX1 1).2.1 (TX1 1).2.2.1).before args s = true) {x : Int32} (hdg : decode cc pc = .ok (.putfield index, 3)) {cells slots : Nat}
    (kk : ∀ (H : Heap) (locs : List Loc), cP G (cO S1 201 x) H → cD (cA G S s.heap.size) G (cO S1 201 x) → va_S (cA G S s.heap.size) s.heap H locs → W p l e R s m args below meth c H locs cells slots Q (F0 m (pc + 3) ls rest)) : W p l e R s m args below meth c H locs cells slots Q (F0 m pc ls (.int x :: .ref (ga G 7) :: rest)) := by
  have hset : (cW G S1).set 7 (ga G 7, .inr (1, ((oSg1 G S1).set 1 (.int x)))) = cW G (cO S1 201 x) := cset rfl rfl (fun k hk => match k, hk with | 0, h => rfl | 1, h => rfl | 2, h => rfl | 3, h => rfl | 4, h => rfl | 5, h => rfl | 6, h => rfl | 7, h => absurd rfl h | 8, h => rfl | 9, h => rfl | 10, h => rfl | 11, h => rfl | 12, h => rfl | _ + 13, _ => rfl)
  refine va_put (D := gD G) (ci := 1) (C := RX1) (T := TX1) (N := 2) (ref := RX1) (ty := .int) hx hb hts cu_in1 tyX1 tyX1_ok nmX1 hown hK hP hD hS 7 cw_7 rfl 1 (by decide) hlink (fun _ h9 => h9) (by decide) (by decide +kernel) rfl rfl (Nat.le_of_ble_eq_true rfl) hdg (fun H1 l1 hP1 hD1 hS1 => ?_)
  rw [hset] at hP1 hD1
  exact kk H1 l1 hP1 hD1 hS1
theorem c_put8_1 (hx : p.tables.exec = Jvm.exec) (hb : c.code = cc) {own : String} (hts : ∀ w ∈ CU, w.before args s = true) (hown : s.vm.findClass own = some m.cls) (hK : cK G s) (hP : cP G S1 H) (hD : cD (cA G S s.heap.size) G S1) (hS : va_S (cA G S s.heap.size) s.heap H locs) (hlink : (Cond.fieldLink own index RX1 (TX1 1).2.1 (TX1 1).2.2.1).before args s = true) {x : Int32} (hdg : decode cc pc = .ok (.putfield index, 3)) {cells slots : Nat}
    (kk : ∀ (H : Heap) (locs : List Loc), cP G (cO S1 202 x) H → cD (cA G S s.heap.size) G (cO S1 202 x) → va_S (cA G S s.heap.size) s.heap H locs → W p l e R s m args below meth c H locs cells slots Q (F0 m (pc + 3) ls rest)) : W p l e R s m args below meth c H locs cells slots Q (F0 m pc ls (.int x :: .ref (ga G 8) :: rest)) := by
  have hset : (cW G S1).set 8 (ga G 8, .inr (1, ((oSg2 G S1).set 1 (.int x)))) = cW G (cO S1 202 x) := cset rfl rfl (fun k hk => match k, hk with | 0, h => rfl | 1, h => rfl | 2, h => rfl | 3, h => rfl | 4, h => rfl | 5, h => rfl | 6, h => rfl | 7, h => rfl | 8, h => absurd rfl h | 9, h => rfl | 10, h => rfl | 11, h => rfl | 12, h => rfl | _ + 13, _ => rfl)
  refine va_put (D := gD G) (ci := 1) (C := RX1) (T := TX1) (N := 2) (ref := RX1) (ty := .int) hx hb hts cu_in1 tyX1 tyX1_ok nmX1 hown hK hP hD hS 8 cw_8 rfl 1 (by decide) hlink (fun _ h9 => h9) (by decide) (by decide +kernel) rfl rfl (Nat.le_of_ble_eq_true rfl) hdg (fun H1 l1 hP1 hD1 hS1 => ?_)
  rw [hset] at hP1 hD1
  exact kk H1 l1 hP1 hD1 hS1
theorem c_putT (hx : p.tables.exec = Jvm.exec) (hb : c.code = cc) {own : String} (hts : ∀ w ∈ CU, w.before args s = true) (hown : s.vm.findClass own = some m.cls) (hK : cK G s) (hP : cP G S1 H) (hD : cD (cA G S s.heap.size) G S1) (hS : va_S (cA G S s.heap.size) s.heap H locs) (hlink : (Cond.fieldLink own index RX2 (TX2 5).2.1 (TX2 5).2.2.1).before args s = true) {x : Nat} (hdg : decode cc pc = .ok (.putfield index, 3)) {cells slots : Nat}
    (kk : ∀ (H : Heap) (locs : List Loc), cP G (cT S1 x) H → cD (cA G S s.heap.size) G (cT S1 x) → va_S (cA G S s.heap.size) s.heap H locs → W p l e R s m args below meth c H locs cells slots Q (F0 m (pc + 3) ls rest)) : W p l e R s m args below meth c H locs cells slots Q (F0 m pc ls (.ref x :: .ref (ga G 3) :: rest)) := by
  have hset : (cW G S1).set 3 (ga G 3, .inr (2, ((oTeller G S1).set 5 (.ref x)))) = cW G (cT S1 x) := cset rfl rfl (fun k hk => match k, hk with | 0, h => rfl | 1, h => rfl | 2, h => rfl | 3, h => absurd rfl h | 4, h => rfl | 5, h => rfl | 6, h => rfl | 7, h => rfl | 8, h => rfl | 9, h => rfl | 10, h => rfl | 11, h => rfl | 12, h => rfl | _ + 13, _ => rfl)
  refine va_put (D := gD G) (ci := 2) (C := RX2) (T := TX2) (N := 6) (ref := RX2) (ty := .object "PolarTypes$Signs") hx hb hts cu_in2 tyX2 tyX2_ok nmX2 hown hK hP hD hS 3 cw_3 rfl 5 (by decide) hlink (fun _ h9 => h9) (by decide) (by decide +kernel) rfl rfl (Nat.le_of_ble_eq_true rfl) hdg (fun H1 l1 hP1 hD1 hS1 => ?_)
  rw [hset] at hP1 hD1
  exact kk H1 l1 hP1 hD1 hS1
end CI
