/-! ===== old contracts over the whole world ===== -/
theorem fe_gr {s t : State} {o : Outcome} {L : List Loc} {k n : Nat} (h : FrameEnd s o t L k n) : Gr s.heap t.heap k n := by
  obtain ⟨-, -, -, b, c, d, e, f⟩ := h
  refine ⟨b, c, e, fun a c0 hc => ?_⟩
  obtain ⟨c', h1, -, h2, -⟩ := f a c0 hc
  exact ⟨c', h1, h2⟩
theorem cback {G : cG} {S u : cS} {A0 : Nat → Prop} {H H1 : Heap} {wc wc' : va_W} (ps : List Nat) (hP : cP G S H) (hD : cD A0 G S) (hA : ∀ q, H.size ≤ q → A0 q) (hk : ∀ q, q < H.size → ¬ va_A wc H.size q → H1[q]? = H[q]?)
    (hP' : va_P (gD G) vwCl wc' H1) (hD' : va_D (va_A wc H.size) wc') (hB : kB u = kB S) (h1 : ∀ (j : Nat) (e : Nat × va_E), wc[j]? = some e → ∃ k : Nat, ps[j]? = some k ∧ (cW G S)[k]? = some e) (h2 : ∀ (j k : Nat), ps[j]? = some k → wc'[j]? = some (cE G u k)) (h3 : ∀ k, k ∉ ps → cE G u k = cE G S k) : cP G u H1 ∧ cD A0 G u := by
  have old : ∀ k q, k ∉ ps → (cW G u)[k]? = some q → (cW G S)[k]? = some q := by
    intro k q hk2 h
    obtain ⟨a, b⟩ := cW_of h
    rw [b, h3 k hk2]
    exact cW_at (by omega)
  have new : ∀ k q, k ∈ ps → (cW G u)[k]? = some q → ∃ j : Nat, ps[j]? = some k ∧ wc'[j]? = some q := by
    intro k q hk2 h
    obtain ⟨j, hj⟩ := List.getElem?_of_mem hk2
    refine ⟨j, hj, ?_⟩
    rw [h2 j k hj, (cW_of h).2]
  have off : ∀ k q, k ∉ ps → (cW G S)[k]? = some q → ¬ va_A wc H.size q.1 := by
    rintro k q hk2 h (⟨j, e, he⟩ | h4)
    · obtain ⟨k2, e1, e2⟩ := h1 j _ he
      have := hD.1 k k2 q (q.1, e) h e2 rfl
      exact hk2 (this ▸ List.mem_of_getElem? e1)
    · have := (hP k q h).lt
      omega
  have inA : ∀ q, va_A wc H.size q → A0 q := by
    rintro q (⟨j, e, he⟩ | h4)
    · obtain ⟨k2, e1, e2⟩ := h1 j _ he
      exact hD.2 k2 _ e2
    · exact hA q h4
  refine ⟨fun k q h => ?_, fun i j p q hi hj hpq => ?_, fun k q h => ?_⟩
  · by_cases hm : k ∈ ps
    · obtain ⟨j, -, h4⟩ := new k q hm h
      exact hP' j q h4
    · have h4 := old k q hm h
      exact (hP k q h4).kept (hk q.1 (hP k q h4).lt (off k q hm h4))
  · by_cases hi2 : i ∈ ps
    · obtain ⟨a, a1, a2⟩ := new i p hi2 hi
      by_cases hj2 : j ∈ ps
      · obtain ⟨b, b1, b2⟩ := new j q hj2 hj
        have := hD'.1 a b p q a2 b2 hpq
        rw [this, b1] at a1
        exact (Option.some.inj a1).symm
      · exact absurd (hpq ▸ hD'.2 a p a2) (off j q hj2 (old j q hj2 hj))
    · by_cases hj2 : j ∈ ps
      · obtain ⟨b, b1, b2⟩ := new j q hj2 hj
        exact absurd (hpq ▸ hD'.2 b q b2) (off i p hi2 (old i p hi2 hi))
      · exact hD.1 i j p q (old i p hi2 hi) (old j q hj2 hj) hpq
  · by_cases hm : k ∈ ps
    · obtain ⟨j, -, h4⟩ := new k q hm h
      exact inA _ (hD'.2 j q h4)
    · exact hD.2 k q (old k q hm h)
theorem cB_of {G : cG} {S u : cS} {Hs : Heap} {av : List Value} {a : Array Value} {s t : State} {o : Outcome} {L : List Loc} {wc wc' : va_W} {mc ms : Nat} (ps : List Nat) (hpc : cPc G S Hs av a s) (hF : va_F (va_A wc Hs.size) s t) (hE : FrameEnd s o t L mc ms)
    (hP' : va_P (gD G) vwCl wc' t.heap) (hD' : va_D (va_A wc Hs.size) wc') (hB : kB u = kB S) (h1 : ∀ (j : Nat) (e : Nat × va_E), wc[j]? = some e → ∃ k : Nat, ps[j]? = some k ∧ (cW G S)[k]? = some e) (h2 : ∀ (j k : Nat), ps[j]? = some k → wc'[j]? = some (cE G u k)) (h3 : ∀ k, k ∉ ps → cE G u k = cE G S k)
    (hmc : mc ≤ PT u - PT S) (hms : ms ≤ 12 * (PT u - PT S)) (hpp : PT S ≤ PT u) (hC : CL u) (hh : HS S u) : cB G S Hs u t := by
  obtain ⟨-, e1, hP, hK, hD, -⟩ := hpc
  subst e1
  have hD0 : cD (cA G S s.heap.size) G S := cD_self hD
  obtain ⟨hP1, hD1⟩ := cback ps hP hD0 (fun q h => Or.inr h) hF.2 hP' hD' hB h1 h2 h3
  exact ⟨hP1, va_K.moved hE.2.1.alike hK, hD1, (fe_gr hE).mono hmc hms, hpp, hC, hh⟩
/-- u is S but for the rows rs -/
def AG (rs : Nat → Prop) (S u : cS) : Prop := u.1 = S.1 ∧ u.2.2 3 = S.2.2 3 ∧ u.2.2 4 = S.2.2 4 ∧ ∀ r, ¬ rs r → kF u r = kF S r ∧ kK u r = kK S r ∧ kN u r = kN S r ∧ kQ u r = kQ S r
theorem AG.cE {rs : Nat → Prop} {G : cG} {S u : cS} (h : AG rs S u) (hs : ∀ r, rs r → r < 400) : ∀ k, (∀ r, rs r → k ≠ 2 * r + 13 ∧ k ≠ 2 * r + 1 + 13) → cE G u k = cE G S k := by
  obtain ⟨h1, h2, h3, h4⟩ := h
  intro k hk
  match k, hk with
  | 0, _ => show (ga G 0, Sum.inr (_, oPT G u)) = (ga G 0, Sum.inr (_, oPT G S)); simp only [oPT, kH, kT, h1, h2, h3]
  | 1, _ => show (ga G 1, Sum.inr (_, oTree G u)) = (ga G 1, Sum.inr (_, oTree G S)); simp only [oTree, kH, kT, h1, h2, h3]
  | 2, _ => show (ga G 2, Sum.inr (_, oTypes G u)) = (ga G 2, Sum.inr (_, oTypes G S)); simp only [oTypes, kH, kT, h1, h2, h3]
  | 3, _ => show (ga G 3, Sum.inr (_, oTeller G u)) = (ga G 3, Sum.inr (_, oTeller G S)); simp only [oTeller, kH, kT, h1, h2, h3]
  | 4, _ => show (ga G 4, Sum.inr (_, oTyping G u)) = (ga G 4, Sum.inr (_, oTyping G S)); simp only [oTyping, kH, kT, h1, h2, h3]
  | 5, _ => show (ga G 5, Sum.inr (_, oWorking G u)) = (ga G 5, Sum.inr (_, oWorking G S)); simp only [oWorking, kH, kT, h1, h2, h3]
  | 6, _ => show (ga G 6, Sum.inr (_, oSg0 G u)) = (ga G 6, Sum.inr (_, oSg0 G S)); simp only [oSg0, kH, kT, h1, h2, h3]
  | 7, _ => show (ga G 7, Sum.inr (_, oSg1 G u)) = (ga G 7, Sum.inr (_, oSg1 G S)); simp only [oSg1, kH, kT, h1, h2, h3]
  | 8, _ => show (ga G 8, Sum.inr (_, oSg2 G u)) = (ga G 8, Sum.inr (_, oSg2 G S)); simp only [oSg2, kH, kT, h1, h2, h3]
  | 9, _ => show (ga G 9, Sum.inl (gB G, 400, Sum.inl (kF u 400))) = _; rw [(h4 400 (fun h => absurd (hs _ h) (by decide))).1]; rfl
  | 10, _ => show (ga G 10, Sum.inl (gB G, 400, Sum.inl (kF u 401))) = _; rw [(h4 401 (fun h => absurd (hs _ h) (by decide))).1]; rfl
  | 11, _ => show (ga G 11, Sum.inl (gB G, 200, Sum.inl (kF u 402))) = _; rw [(h4 402 (fun h => absurd (hs _ h) (by decide))).1]; rfl
  | 12, _ => show (ga G 12, Sum.inl (gR G, 300, Sum.inr (Sum.inr (Sum.inr (Sum.inr (fun j => if j < kB u then some (kH u (35 + j)) else none)))))) = _; simp only [kB, kH, h2, h3]; rfl
  | k + 13, hk =>
    have hr : ¬ rs (k / 2) := fun h => by
      have := hk _ h
      omega
    obtain ⟨a, b, c, d⟩ := h4 (k / 2) hr
    show (if k % 2 = 0 then (kH u (k / 2), _) else (kQ u (k / 2), _)) = (if k % 2 = 0 then (kH S (k / 2), _) else (kQ S (k / 2), _))
    have e : kH u (k / 2) = kH S (k / 2) := by simp only [kH, h2]
    rw [a, b, c, d, e]
/-- a row is as told -/
def uR (S : cS) (r k n q : Nat) (f : Nat → Int32) : cS := (S.1, fun a => if a = r then f else S.2.1 a, fun t a => if t = 0 then (if a = r then k else S.2.2 0 a) else if t = 1 then (if a = r then n else S.2.2 1 a) else if t = 2 then (if a = r then q else S.2.2 2 a) else S.2.2 t a)
theorem uR_F {S : cS} {r k n q : Nat} {f : Nat → Int32} : kF (uR S r k n q f) r = f := if_pos rfl
theorem uR_K {S : cS} {r k n q : Nat} {f : Nat → Int32} : kK (uR S r k n q f) r = k := if_pos rfl
theorem uR_N {S : cS} {r k n q : Nat} {f : Nat → Int32} : kN (uR S r k n q f) r = n := if_pos rfl
theorem uR_Q {S : cS} {r k n q : Nat} {f : Nat → Int32} : kQ (uR S r k n q f) r = q := if_pos rfl
theorem uR_Fo {S : cS} {r k n q x : Nat} {f : Nat → Int32} (h : x ≠ r) : kF (uR S r k n q f) x = kF S x := if_neg h
theorem uR_Ko {S : cS} {r k n q x : Nat} {f : Nat → Int32} (h : x ≠ r) : kK (uR S r k n q f) x = kK S x := if_neg h
theorem uR_No {S : cS} {r k n q x : Nat} {f : Nat → Int32} (h : x ≠ r) : kN (uR S r k n q f) x = kN S x := if_neg h
theorem uR_Qo {S : cS} {r k n q x : Nat} {f : Nat → Int32} (h : x ≠ r) : kQ (uR S r k n q f) x = kQ S x := if_neg h
theorem uR_ag {S : cS} {r k n q : Nat} {f : Nat → Int32} : AG (fun x => x = r) S (uR S r k n q f) := ⟨rfl, rfl, rfl, fun x h => ⟨uR_Fo h, uR_Ko h, uR_No h, uR_Qo h⟩⟩
theorem uR_HS {S : cS} {r k n q : Nat} {f : Nat → Int32} : HS S (uR S r k n q f) := ⟨Nat.le_refl _, fun _ _ => rfl⟩
theorem uR_PT {S : cS} {r k n q : Nat} {f : Nat → Int32} (hr : r < 35 + kB S) : PT (uR S r k n q f) + (kN S r / 4 + 1) = PT S + (n / 4 + 1) := by
  have h := sum_upd (f := fun x => kN S x / 4 + 1) (g := fun x => kN (uR S r k n q f) x / 4 + 1) (r := r) (35 + kB S) hr (fun x hx => by show kN (uR S r k n q f) x / 4 + 1 = _; rw [uR_No hx])
  have e : kN (uR S r k n q f) r = n := uR_N
  simp only [e] at h
  exact h
theorem uR_CL {S : cS} {r k n q : Nat} {f : Nat → Int32} (h : CL S) (h1 : k ≤ n) (h2 : n ≤ 2 * lim r + 4) (h3 : k ≤ lim r) : CL (uR S r k n q f) := by
  refine ⟨h.1, fun x hx => ?_⟩
  by_cases e : x = r
  · subst e
    rw [uR_K, uR_N]
    exact ⟨h1, h2, h3⟩
  · rw [uR_Ko e, uR_No e]
    exact h.2 x hx
abbrev rwc (G : cG) (S : cS) (r : Nat) : va_W := [(kH S r, .inr (0, [.ref (kQ S r), .int (nI (kK S r))])), (kQ S r, .inl (gI G, kN S r, .inl (kF S r)))]
theorem uR_w {G : cG} {S : cS} {r k n q : Nat} {f : Nat → Int32} : rwc G (uR S r k n q f) r = [(kH S r, .inr (0, [.ref q, .int (nI k)])), (q, .inl (gI G, n, .inl f))] := by
  unfold rwc
  rw [uR_K, uR_N, uR_Q, uR_F]
  rfl
theorem rw_1 {G : cG} {S : cS} {r : Nat} (hr : r < 35 + kB S) : ∀ (j : Nat) (e : Nat × va_E), (rwc G S r)[j]? = some e → ∃ k : Nat, [2 * r + 13, 2 * r + 1 + 13][j]? = some k ∧ (cW G S)[k]? = some e
  | 0, e, h => ⟨2 * r + 13, rfl, by rw [cw_row hr]; exact h⟩
  | 1, e, h => ⟨2 * r + 1 + 13, rfl, by rw [cw_arr hr]; exact h⟩
  | j + 2, e, h => by simp [rwc] at h
theorem rw_2 {G : cG} {S u : cS} {r : Nat} (h : AG (fun x => x = r) S u) : ∀ (j k : Nat), [2 * r + 13, 2 * r + 1 + 13][j]? = some k → (rwc G u r)[j]? = some (cE G u k)
  | 0, k, h => by obtain rfl : 2 * r + 13 = k := Option.some.inj h; rw [cE_row]; rfl
  | 1, k, h => by obtain rfl : 2 * r + 1 + 13 = k := Option.some.inj h; rw [cE_arr]; rfl
  | j + 2, k, h => by simp at h
theorem rw_P {G : cG} {S : cS} {r : Nat} {H : Heap} (hr : r < 35 + kB S) (h : cP G S H) : va_P (gD G) vwCl (rwc G S r) H := fun j e he => by
  obtain ⟨k, -, h2⟩ := rw_1 hr j e he
  exact h k e h2
theorem rw_D {G : cG} {S : cS} {r : Nat} {A : Nat → Prop} (hr : r < 35 + kB S) (h : cD A G S) : va_D A (rwc G S r) := by
  refine ⟨fun i j p q hi hj hpq => ?_, fun k q hk => ?_⟩
  · obtain ⟨a, a1, a2⟩ := rw_1 hr i p hi
    obtain ⟨b, b1, b2⟩ := rw_1 hr j q hj
    have e := h.1 a b p q a2 b2 hpq
    match i, j with
    | 0, 0 => rfl
    | 1, 1 => rfl
    | 0, 1 => exact absurd ((Option.some.inj a1).trans (e.trans (Option.some.inj b1).symm)) (by omega)
    | 1, 0 => exact absurd ((Option.some.inj a1).trans (e.trans (Option.some.inj b1).symm)) (by omega)
    | i + 2, _ => simp [rwc] at hi
    | _, j + 2 => simp [rwc] at hj
  · obtain ⟨a, a1, a2⟩ := rw_1 hr k q hk
    exact h.2 a q a2
theorem rw_A {G : cG} {S : cS} {r sz : Nat} (hr : r < 35 + kB S) : ∀ q, va_A (rwc G S r) sz q → cA G S sz q := by
  rintro q (⟨k, e, h⟩ | h)
  · obtain ⟨a, a1, a2⟩ := rw_1 hr k _ h
    exact Or.inl ⟨a, e, a2⟩
  · exact Or.inr h
theorem cK_i {G : cG} {U : State} (h : cK G U) : va_K ((gD G).1, (gD G).2) vwCl [(gI G, .int)] U := va_K.sub h [0] rfl
theorem rw_3 {G : cG} {S u : cS} {r : Nat} (hr : r < 400) (h : AG (fun x => x = r) S u) : ∀ k, k ∉ [2 * r + 13, 2 * r + 1 + 13] → cE G u k = cE G S k := fun k hk => h.cE (fun x hx => by omega) k (fun x hx => by
  simp only [List.mem_cons, List.not_mem_nil, or_false, not_or] at hk
  subst hx
  exact hk)
theorem c_get (l : Launch) (G : cG) (S : cS) (r : Nat) (hr : r < 35 + kB S) (hC : CL S) (i : Int32) (Hs : Heap) : Met l yX0_get (wC yX0_get cX0_get 2 (some .int)) (cRm S 0 0) (cPc G S Hs [.ref (kH S r), .int i]) (cQi G S Hs (fun v u => u = S ∧ v = rget (kF S r) (kK S r) i)) (CC - PT S) (12 * (CC - PT S)) (cA G S Hs.size) := by
  obtain ⟨hk, hn, hl⟩ := hC.2 r hr
  have hl2 := lim_le r
  have hb9 := hC.1
  refine Met.conv (g_Row_get l (gD G).1 (gD G).2 (gI G) (kH S r) (kQ S r) (kK S r) (kN S r) (kF S r) i (by omega) (by omega) Hs.size) (fun w h => (show ∀ w ∈ wsX0_get, w ∈ (wC yX0_get cX0_get 2 (some .int)) from fun w h => List.mem_cons_of_mem _ ((List.forall_mem_cons.mpr ⟨C_203, (cm_app (List.forall_mem_cons.mpr ⟨C_89, (List.forall_mem_cons.mpr ⟨C_37, cm_0⟩)⟩) cu_in0)⟩) w h)) w h) (Nat.le_refl _) (Nat.le_refl _) ?_ ?_ ?_ ?_ ?_ ?_ (rw_A hr)
  · exact Nat.zero_le _
  · exact Nat.zero_le _
  · exact Nat.zero_le _
  · exact Nat.zero_le _
  · rintro a s ⟨e0, e1, hP, hK, hD, -⟩
    exact ⟨e0, by rw [e1], rw_P hr (by rw [e1]; exact hP), cK_i hK, rw_D hr hD⟩
  · rintro a s o t hpc ⟨⟨v, u0, eo, hv, hP1, hK1, hD1⟩, hF⟩ ⟨L, hE⟩
    have hW : (rwc G S r : va_W) = rwc G S r := rfl
    exact ⟨⟨v, S, eo, ⟨rfl, hv⟩, (cB_of [2 * r + 13, 2 * r + 1 + 13] hpc hF hE hP1 hD1 rfl (rw_1 hr) (rw_2 (⟨rfl, rfl, rfl, fun _ _ => ⟨rfl, rfl, rfl, rfl⟩⟩ : AG (fun x => x = r) S S)) (rw_3 (by omega) (⟨rfl, rfl, rfl, fun _ _ => ⟨rfl, rfl, rfl, rfl⟩⟩ : AG (fun x => x = r) S S)) (Nat.zero_le _) (Nat.zero_le _) (Nat.le_refl _) hC HS.rf)⟩, hF.1, fun q hq hn => hF.2 q hq (fun h => hn (by obtain ⟨-, e1, -⟩ := hpc; rw [e1] at *; exact rw_A hr q h))⟩
theorem c_holds (l : Launch) (G : cG) (S : cS) (r : Nat) (hr : r < 35 + kB S) (hC : CL S) (i : Int32) (Hs : Heap) : Met l yX0_holds (wC yX0_holds cX0_holds 2 (some .boolean)) (cRm S 0 0) (cPc G S Hs [.ref (kH S r), .int i]) (cQi G S Hs (fun v u => u = S ∧ v = rholds (kK S r) i)) (CC - PT S) (12 * (CC - PT S)) (cA G S Hs.size) := by
  obtain ⟨hk, hn, hl⟩ := hC.2 r hr
  have hl2 := lim_le r
  have hb9 := hC.1
  refine Met.conv (g_Row_holds l (gD G).1 (gD G).2 (gI G) (kH S r) (kQ S r) (kK S r) (kN S r) (kF S r) i (by omega) (by omega) Hs.size) (fun w h => (show ∀ w ∈ wsX0_holds, w ∈ (wC yX0_holds cX0_holds 2 (some .boolean)) from fun w h => List.mem_cons_of_mem _ ((List.forall_mem_cons.mpr ⟨C_199, (cm_app (List.forall_mem_cons.mpr ⟨C_89, cm_0⟩) cu_in0)⟩) w h)) w h) (Nat.le_refl _) (Nat.le_refl _) ?_ ?_ ?_ ?_ ?_ ?_ (rw_A hr)
  · exact Nat.zero_le _
  · exact Nat.zero_le _
  · exact Nat.zero_le _
  · exact Nat.zero_le _
  · rintro a s ⟨e0, e1, hP, hK, hD, -⟩
    exact ⟨e0, by rw [e1], rw_P hr (by rw [e1]; exact hP), cK_i hK, rw_D hr hD⟩
  · rintro a s o t hpc ⟨⟨v, u0, eo, hv, hP1, hK1, hD1⟩, hF⟩ ⟨L, hE⟩
    have hW : (rwc G S r : va_W) = rwc G S r := rfl
    exact ⟨⟨v, S, eo, ⟨rfl, hv⟩, (cB_of [2 * r + 13, 2 * r + 1 + 13] hpc hF hE hP1 hD1 rfl (rw_1 hr) (rw_2 (⟨rfl, rfl, rfl, fun _ _ => ⟨rfl, rfl, rfl, rfl⟩⟩ : AG (fun x => x = r) S S)) (rw_3 (by omega) (⟨rfl, rfl, rfl, fun _ _ => ⟨rfl, rfl, rfl, rfl⟩⟩ : AG (fun x => x = r) S S)) (Nat.zero_le _) (Nat.zero_le _) (Nat.le_refl _) hC HS.rf)⟩, hF.1, fun q hq hn => hF.2 q hq (fun h => hn (by obtain ⟨-, e1, -⟩ := hpc; rw [e1] at *; exact rw_A hr q h))⟩
theorem c_set (l : Launch) (G : cG) (S : cS) (r : Nat) (hr : r < 35 + kB S) (hC : CL S) (i : Int32) (x : Int32) (Hs : Heap) : Met l yX0_set (wC yX0_set cX0_set 3 none) (cRm S 0 0) (cPc G S Hs [.ref (kH S r), .int i, .int x]) (cQv G S Hs (fun u => u = uR S r (kK S r) (kN S r) (kQ S r) (rset (kF S r) (kK S r) i x))) (CC - PT S) (12 * (CC - PT S)) (cA G S Hs.size) := by
  obtain ⟨hk, hn, hl⟩ := hC.2 r hr
  have hl2 := lim_le r
  have hb9 := hC.1
  refine Met.conv (g_Row_set l (gD G).1 (gD G).2 (gI G) (kH S r) (kQ S r) (kK S r) (kN S r) (kF S r) i x (by omega) (by omega) Hs.size) (fun w h => (show ∀ w ∈ wsX0_set, w ∈ (wC yX0_set cX0_set 3 none) from fun w h => List.mem_cons_of_mem _ ((List.forall_mem_cons.mpr ⟨C_227, (cm_app (List.forall_mem_cons.mpr ⟨C_89, (List.forall_mem_cons.mpr ⟨C_37, cm_0⟩)⟩) cu_in0)⟩) w h)) w h) (Nat.le_refl _) (Nat.le_refl _) ?_ ?_ ?_ ?_ ?_ ?_ (rw_A hr)
  · exact Nat.zero_le _
  · exact Nat.zero_le _
  · exact Nat.zero_le _
  · exact Nat.zero_le _
  · rintro a s ⟨e0, e1, hP, hK, hD, -⟩
    exact ⟨e0, by rw [e1], rw_P hr (by rw [e1]; exact hP), cK_i hK, rw_D hr hD⟩
  · rintro a s o t hpc ⟨⟨u0, eo, hv, hP1, hK1, hD1⟩, hF⟩ ⟨L, hE⟩
    obtain ⟨u, eu⟩ : ∃ u, u = uR S r (kK S r) (kN S r) (kQ S r) (rset (kF S r) (kK S r) i x) := ⟨_, rfl⟩
    have hag : AG (fun x => x = r) S u := by rw [eu]; exact uR_ag
    have hpt : PT u = PT S := by rw [eu]; have := uR_PT (S := S) (r := r) (k := kK S r) (n := kN S r) (q := kQ S r) (f := rset (kF S r) (kK S r) i x) hr; omega
    have hCu : CL u := by rw [eu]; exact uR_CL hC (by omega) (by omega) (by omega)
    have hHu : HS S u := by rw [eu]; exact uR_HS
    have hP2 : va_P (gD G) vwCl (rwc G u r) t.heap := by rw [eu, uR_w]; exact hP1
    have hD2 : va_D (va_A (rwc G S r) Hs.size) (rwc G u r) := by rw [eu, uR_w]; exact hD1
    exact ⟨⟨u, eo, eu, (cB_of [2 * r + 13, 2 * r + 1 + 13] hpc hF hE hP2 hD2 (by rw [eu]; rfl) (rw_1 hr) (rw_2 hag) (rw_3 (by omega) hag) (Nat.zero_le _) (Nat.zero_le _) (Nat.le_of_eq hpt.symm) hCu hHu)⟩, hF.1, fun q hq hn => hF.2 q hq (fun h => hn (rw_A hr q h))⟩
theorem c_cut (l : Launch) (G : cG) (S : cS) (r : Nat) (hr : r < 35 + kB S) (hC : CL S) (i : Int32) (Hs : Heap) : Met l yX0_cutTo (wC yX0_cutTo cX0_cutTo 2 none) (cRm S 0 0) (cPc G S Hs [.ref (kH S r), .int i]) (cQv G S Hs (fun u => u = uR S r (rcut (kK S r) i) (kN S r) (kQ S r) (kF S r))) (CC - PT S) (12 * (CC - PT S)) (cA G S Hs.size) := by
  obtain ⟨hk, hn, hl⟩ := hC.2 r hr
  have hl2 := lim_le r
  have hb9 := hC.1
  refine Met.conv (g_Row_cutTo l (gD G).1 (gD G).2 (gI G) (kH S r) (kQ S r) (kK S r) (kN S r) (kF S r) i (by omega) (by omega) Hs.size) (fun w h => (show ∀ w ∈ wsX0_cutTo, w ∈ (wC yX0_cutTo cX0_cutTo 2 none) from fun w h => List.mem_cons_of_mem _ ((List.forall_mem_cons.mpr ⟨C_88, (cm_app (List.forall_mem_cons.mpr ⟨C_89, cm_0⟩) cu_in0)⟩) w h)) w h) (Nat.le_refl _) (Nat.le_refl _) ?_ ?_ ?_ ?_ ?_ ?_ (rw_A hr)
  · exact Nat.zero_le _
  · exact Nat.zero_le _
  · exact Nat.zero_le _
  · exact Nat.zero_le _
  · rintro a s ⟨e0, e1, hP, hK, hD, -⟩
    exact ⟨e0, by rw [e1], rw_P hr (by rw [e1]; exact hP), cK_i hK, rw_D hr hD⟩
  · rintro a s o t hpc ⟨⟨u0, eo, hv, hP1, hK1, hD1⟩, hF⟩ ⟨L, hE⟩
    obtain ⟨u, eu⟩ : ∃ u, u = uR S r (rcut (kK S r) i) (kN S r) (kQ S r) (kF S r) := ⟨_, rfl⟩
    have hag : AG (fun x => x = r) S u := by rw [eu]; exact uR_ag
    have hpt : PT u = PT S := by rw [eu]; have := uR_PT (S := S) (r := r) (k := rcut (kK S r) i) (n := kN S r) (q := kQ S r) (f := kF S r) hr; omega
    have hcl := rcut_le (kK S r) i (by omega)
    have hCu : CL u := by rw [eu]; exact uR_CL hC (by omega) (by omega) (by omega)
    have hHu : HS S u := by rw [eu]; exact uR_HS
    have hP2 : va_P (gD G) vwCl (rwc G u r) t.heap := by rw [eu, uR_w]; exact hP1
    have hD2 : va_D (va_A (rwc G S r) Hs.size) (rwc G u r) := by rw [eu, uR_w]; exact hD1
    exact ⟨⟨u, eo, eu, (cB_of [2 * r + 13, 2 * r + 1 + 13] hpc hF hE hP2 hD2 (by rw [eu]; rfl) (rw_1 hr) (rw_2 hag) (rw_3 (by omega) hag) (Nat.zero_le _) (Nat.zero_le _) (Nat.le_of_eq hpt.symm) hCu hHu)⟩, hF.1, fun q hq hn => hF.2 q hq (fun h => hn (rw_A hr q h))⟩
theorem c_add (l : Launch) (G : cG) (S : cS) (r : Nat) (hr : r < 35 + kB S) (hC : CL S) (x : Int32) (hlt : kK S r < lim r) (Hs : Heap) : Met l yX0_add (wC yX0_add cX0_add 2 none) (cRm S 2 82) (cPc G S Hs [.ref (kH S r), .int x]) (cQv G S Hs (fun u => ∃ n q g, u = uR S r (kK S r + 1) n q g ∧ (∀ j, j < kK S r → g j = kF S r j) ∧ g (kK S r) = x)) (CC - PT S) (12 * (CC - PT S)) (cA G S Hs.size) := by
  obtain ⟨hk, hn, hl⟩ := hC.2 r hr
  have hl2 := lim_le r
  have hb9 := hC.1
  obtain ⟨hpg, hgA, hgS, hgC⟩ : (gC (kK S r) (kN S r) = kN S r ∨ gC (kK S r) (kN S r) = 2 * kN S r + 4) ∧ (gA (kK S r) (kN S r) ≤ gC (kK S r) (kN S r) / 4 - kN S r / 4) ∧ (gS (kK S r) (kN S r) ≤ 12 * (gC (kK S r) (kN S r) / 4 - kN S r / 4)) ∧ (gC (kK S r) (kN S r) ≤ 2 * lim r + 4) := by
    by_cases h : kK S r < kN S r
    · rw [gC_p h, show gA (kK S r) (kN S r) = 0 from if_pos h, show gS (kK S r) (kN S r) = 0 from if_pos h]
      exact ⟨Or.inl rfl, Nat.zero_le _, Nat.zero_le _, hn⟩
    · rw [gC_n h, gA_n h, gS_n h]
      have e : kK S r = kN S r := by omega
      rw [e]
      refine ⟨Or.inr rfl, by omega, by omega, by omega⟩
  have hgl := gC_lt (k := kK S r) (n := kN S r)
  have hcc : CL (uR S r (kK S r + 1) (gC (kK S r) (kN S r)) (kQ S r) (kF S r)) := uR_CL hC (by omega) hgC (by omega)
  have hpp := hcc.pp
  have hpt := uR_PT (S := S) (r := r) (k := kK S r + 1) (n := gC (kK S r) (kN S r)) (q := kQ S r) (f := kF S r) hr
  refine Met.conv (g_Row_add l (gD G).1 (gD G).2 (gI G) (kH S r) (kQ S r) (kK S r) (kN S r) (kF S r) x (by omega) (by omega) (by omega) Hs) (fun w h => (show ∀ w ∈ wsX0_add, w ∈ (wC yX0_add cX0_add 2 none) from fun w h => List.mem_cons_of_mem _ ((List.forall_mem_cons.mpr ⟨C_98, (cm_app (List.forall_mem_cons.mpr ⟨C_89, (List.forall_mem_cons.mpr ⟨C_37, (List.forall_mem_cons.mpr ⟨C_99, (List.forall_mem_cons.mpr ⟨C_100, (List.forall_mem_cons.mpr ⟨C_101, (List.forall_mem_cons.mpr ⟨C_102, (List.forall_mem_cons.mpr ⟨C_103, (List.forall_mem_cons.mpr ⟨C_104, (List.forall_mem_cons.mpr ⟨C_105, (List.forall_mem_cons.mpr ⟨C_106, (List.forall_mem_cons.mpr ⟨C_107, (List.forall_mem_cons.mpr ⟨C_108, (List.forall_mem_cons.mpr ⟨C_36, (List.forall_mem_cons.mpr ⟨C_109, (List.forall_mem_cons.mpr ⟨C_110, (List.forall_mem_cons.mpr ⟨C_111, (List.forall_mem_cons.mpr ⟨C_112, (List.forall_mem_cons.mpr ⟨C_113, (List.forall_mem_cons.mpr ⟨C_114, (List.forall_mem_cons.mpr ⟨C_115, (List.forall_mem_cons.mpr ⟨C_116, cm_0⟩)⟩)⟩)⟩)⟩)⟩)⟩)⟩)⟩)⟩)⟩)⟩)⟩)⟩)⟩)⟩)⟩)⟩)⟩)⟩)⟩) cu_in0)⟩) w h)) w h) (Nat.le_refl _) (Nat.le_refl _) ?_ ?_ ?_ ?_ ?_ ?_ (rw_A hr)
  · show gA (kK S r) (kN S r) ≤ CC - PT S
    omega
  · show gS (kK S r) (kN S r) ≤ 12 * (CC - PT S)
    omega
  · show gA (kK S r) (kN S r) ≤ CC - PT S
    omega
  · show gS (kK S r) (kN S r) ≤ 12 * (CC - PT S)
    omega
  · rintro a s ⟨e0, e1, hP, hK, hD, -⟩
    exact ⟨e0, e1, rw_P hr (by rw [e1]; exact hP), cK_i hK, rw_D hr hD⟩
  · rintro a s o t hpc ⟨⟨u0, eo, hv, q2, g, ⟨g1, g2⟩, hP1, hK1, hD1, hG1⟩, hF⟩ ⟨L, hE⟩
    obtain ⟨u, eu⟩ : ∃ u, u = uR S r (kK S r + 1) (gC (kK S r) (kN S r)) q2 g := ⟨_, rfl⟩
    have hag : AG (fun x => x = r) S u := by rw [eu]; exact uR_ag
    have hpt2 := uR_PT (S := S) (r := r) (k := kK S r + 1) (n := gC (kK S r) (kN S r)) (q := q2) (f := g) hr
    rw [← eu] at hpt2
    have hCu : CL u := by rw [eu]; exact uR_CL hC (by omega) hgC (by omega)
    have hHu : HS S u := by rw [eu]; exact uR_HS
    have hP2 : va_P (gD G) vwCl (rwc G u r) t.heap := by rw [eu, uR_w]; exact hP1
    have hD2 : va_D (va_A (rwc G S r) Hs.size) (rwc G u r) := by rw [eu, uR_w]; exact hD1
    exact ⟨⟨u, eo, ⟨_, q2, g, eu, g1, g2⟩, cB_of [2 * r + 13, 2 * r + 1 + 13] hpc hF hE hP2 hD2 (by rw [eu]; rfl) (rw_1 hr) (rw_2 hag) (rw_3 (by omega) hag) (by omega) (by omega) (by omega) hCu hHu⟩, hF.1, fun q hq hn => hF.2 q hq (fun h => hn (rw_A hr q h))⟩
