/-! ===== TYPING: behind a stop only who asks, and what nodes give, is written ===== -/
def SM (s s' : aS) : Prop := (∀ g j, g < 8 → ¬ (g = 0 ∧ j = 5) → s'.1 g j = s.1 g j) ∧ s'.2 = s.2
theorem SM.rf {s : aS} : SM s s := ⟨fun _ _ _ _ => rfl, rfl⟩
theorem SM.tr {s s1 s2 : aS} (h : SM s s1) (h' : SM s1 s2) : SM s s2 := ⟨fun g j h1 h2 => (h'.1 g j h1 h2).trans (h.1 g j h1 h2), h'.2.trans h.2⟩
theorem SM.st {s s' : aS} (h : SM s s') : sto s' = sto s := h.1 0 3 (by decide) (by decide)
theorem SM.wh {s s' : aS} (h : SM s s') : s'.1 0 4 = s.1 0 4 := h.1 0 4 (by decide) (by decide)
theorem SM.sp {s s' : aS} (h : SM s s') : stp s' = stp s := h.1 0 2 (by decide) (by decide)
theorem SM.n {s s' : aS} (h : SM s s') : nT s' = nT s := h.1 0 0 (by decide) (by decide)
theorem SM.ne {s s' : aS} (h : SM s s') (h0 : sto s ≠ 0) : sto s' ≠ 0 := by
  rw [h.st]
  exact h0
theorem sm_w (s : aS) (f i v : Nat) (h : f = 0 ∧ i = 5 ∨ 8 ≤ f) : SM s (w1 s f i v) := ⟨fun g j h1 h2 => by
  show mst s.1 f i v g j = s.1 g j
  unfold mst
  rcases h with ⟨rfl, rfl⟩ | h
  · by_cases e : g = 0
    · rw [if_pos e, if_neg (fun z => h2 ⟨e, z⟩)]
    · rw [if_neg e]
  · rw [if_neg (by omega)], rfl⟩
theorem sm_gives (s : aS) (n t sc : Nat) : SM s (gives s n t sc) := (sm_w s 8 n t (Or.inr (by decide))).tr (sm_w _ 9 n sc (Or.inr (by decide)))
theorem sm_fresh {s : aS} (n l : Nat) (h : sto s ≠ 0) : SM s (fresh s n l).1 := by
  rw [show fresh s n l = (w1 s 0 5 n, 0) from if_pos h]
  exact sm_w s 0 5 n (Or.inl ⟨rfl, rfl⟩)
theorem sm_puts {s : aS} (n a b : Nat) (h : sto s ≠ 0) : SM s (puts s n a b) := by
  rw [show puts s n a b = w1 s 0 5 n from if_pos h]
  exact sm_w s 0 5 n (Or.inl ⟨rfl, rfl⟩)
theorem sm_mkA {s : aS} (a b : Nat) (h : sto s ≠ 0) : SM s (mkA s a b).1 := by
  rw [mkA_st h]
  exact SM.rf
theorem sm_mkR {s : aS} (a b : List Nat) (h : sto s ≠ 0) : SM s (mkR s a b).1 := by
  rw [mkR_st h]
  exact SM.rf
theorem sm_ty {tr : aM} {top k n l : Nat} {s : aS} (h : sto s ≠ 0) : SM s (ty tr top k s n l).1 := by
  rw [ty_st h]
  exact SM.rf
theorem kt_sm {S : cS} {z z' : aS} (h : KT S z) (m : SM z z') : KT S z' := h.z m.n (m.1 0 1 (by decide) (by decide)) (fun g h1 h2 j => m.1 g j (by omega) (by omega)) (congrArg Prod.fst m.2)
theorem kq_sm {S : cS} {z z' : aS} (h : KQ S z) (m : SM z z') : KQ S z' := KQ.aw h (rs := []) (is := []) AW.rf (by decide) (congrArg Prod.snd m.2) m.n
theorem fresh_e {s : aS} {n l : Nat} (h : sto s = 0) (hv : nV s ≠ 150) (ht : nT s ≠ 602) : fresh s n l = (newV (w1 s 0 5 n) l, nT s) := by
  rw [show fresh s n l = mkV (w1 s 0 5 n) l from if_neg (not_not_intro h)]
  exact mkV_e (z := w1 s 0 5 n) hv ht
theorem fresh_f {s : aS} {n l : Nat} (h : sto s = 0) (hf : nV s = 150 ∨ nT s = 602) : fresh s n l = (stops (w1 s 0 5 n) 1 n, 0) := by
  rw [show fresh s n l = mkV (w1 s 0 5 n) l from if_neg (not_not_intro h)]
  exact mkV_f (z := w1 s 0 5 n) hf
theorem puts_e {s : aS} {n a b : Nat} (h : sto s = 0) : puts s n a b = un 60 (w1 s 0 5 n) a b := if_neg (not_not_intro h)
/-! the tree's owners; what binds a NAME -/
def TO (S : cS) (tr : aM) (N : Nat) : Prop := ∀ n, n < N → (tr 3 n = 0 → kF S 2 n = -9) ∧ (tr 3 n ≠ 0 → kF S 2 n = nI (tr 3 n - 1) ∧ tr 3 n - 1 < N) ∧ (∀ i, i < prts (tr 0 n) (tr 2 n) → tr 3 (tr (10 + i) n) = n + 1) ∧ (tr 0 n = 7 → tr 11 n ≠ tr 10 n)
theorem TO.aw {rs is : List Nat} {S u : cS} {tr : aM} {N : Nat} (h : TO S tr N) (a : AW rs is S u) (hr : 2 ∉ rs) : TO u tr N := by
  unfold TO
  rw [(a.2.1 2 (lt35 (by decide)) hr).1]
  exact h
def obn : Option Nat → Int32
  | none => -9
  | some u => nI u
theorem tb_9 {f0 f1 f2 f3 f4 : Nat → Int32} {N top : Nat} {a : Int32} (ht : top < 2 ^ 31) : ∀ m, t_binder f0 f1 f2 f3 f4 N a (nI top) m (-9) = -9
  | 0 => rfl
  | m + 1 => by
    unfold t_binder
    rw [if_neg (fun h => nI_neg (by decide) ht h.symm), if_pos rfl]
theorem kn_ne {a k : Nat} {x : Int32} (hx : x = nI k) (ha : a ≤ 11) (hk : k ≤ 11) (h : a ≠ k) : ¬ nI a = x := fun z => h ((nI_eq (by omega) (by omega)).mp (z.trans hx))
theorem tb_eq {S : cS} {tr : aM} {mk : Nat → Int32} {N a top : Nat} (h : TC S tr mk N) (ho : TO S tr N) (ha : a < N) (ha2 : tr 0 a = 2) (htop : top < N) : ∀ m c, c < N → t_binder (kF S 0) (kF S 1) (kF S 2) (kF S 3) (kF S 4) N (nI a) (nI top) m (nI c) = obn (binder tr top (tr 1 a) m c) ∧ ∀ u, binder tr top (tr 1 a) m c = some u → u < N
  | 0, c, _ => ⟨rfl, fun u hu => by cases hu⟩
  | m + 1, c, hc => by
    have hN := h.1.1
    unfold t_binder binder
    by_cases e : c = top
    · rw [if_pos (by rw [e]), if_pos e]
      exact ⟨rfl, fun u hu => by cases hu⟩
    · rw [if_neg (fun z => e ((nI_eq (by omega) (by omega)).mp z)), if_neg e, if_neg (nI_neg (by decide) (by omega)), rget_at hc (by omega)]
      obtain ⟨o1, o2, o3, o4⟩ := ho c hc
      have ema : rget (kF S 1) N (nI a) = nI (tr 1 a) := h.let ha (Or.inl ha2)
      by_cases e3 : tr 3 c = 0
      · rw [if_pos e3, o1 e3]
        have e9 : rget (kF S 1) N (-9) = -9 := if_pos (by decide)
        rw [e9, ema, if_pos (fun z => nI_neg (by decide) (by have := (h.2 a ha).2.2.1 (Or.inl ha2); omega) z.symm), tb_9 (by omega)]
        exact ⟨rfl, fun u hu => by cases hu⟩
      · obtain ⟨p1, p2⟩ := o2 e3
        rw [if_neg e3, p1, ema]
        have ih := tb_eq h ho ha ha2 htop m (tr 3 c - 1) p2
        have hk := h.kind p2
        have hk11 : tr 0 (tr 3 c - 1) ≤ 11 := (h.2 _ p2).2.2.2.2.2.1
        have ha26 := ((h.2 a ha).2.2.1 (Or.inl ha2)).2
        by_cases hl : tr 0 (tr 3 c - 1) = 3 ∨ tr 0 (tr 3 c - 1) = 7 ∨ tr 0 (tr 3 c - 1) = 8
        · have em : rget (kF S 1) N (nI (tr 3 c - 1)) = nI (tr 1 (tr 3 c - 1)) := h.let p2 (by omega)
          have em26 := ((h.2 _ p2).2.2.1 (by omega)).2
          rw [em]
          by_cases ex : tr 1 (tr 3 c - 1) = tr 1 a
          · rw [if_neg (not_not_intro (by rw [ex]))]
            unfold t_binds
            rw [hk]
            by_cases k3 : tr 0 (tr 3 c - 1) = 3
            · rw [if_pos (show nI (tr 0 (tr 3 c - 1)) = 3 by rw [k3]; rfl), if_neg (by decide), if_pos ⟨ex, Or.inl k3⟩]
              exact ⟨rfl, fun u hu => by obtain rfl := Option.some.inj hu; exact p2⟩
            · rw [if_neg (kn_ne (x := 3) (k := 3) rfl hk11 (by decide) k3)]
              by_cases k8 : tr 0 (tr 3 c - 1) = 8
              · rw [if_pos (show nI (tr 0 (tr 3 c - 1)) = 8 by rw [k8]; rfl), if_neg (by decide), if_pos ⟨ex, Or.inr (Or.inr k8)⟩]
                exact ⟨rfl, fun u hu => by obtain rfl := Option.some.inj hu; exact p2⟩
              · have k7 : tr 0 (tr 3 c - 1) = 7 := by omega
                rw [if_neg (kn_ne (x := 8) (k := 8) rfl hk11 (by decide) k8), if_neg (not_not_intro (show nI (tr 0 (tr 3 c - 1)) = 7 by rw [k7]; rfl))]
                have hp1 : t_part (kF S 3) (kF S 4) N (nI (tr 3 c - 1)) 1 = nI (tr 11 (tr 3 c - 1)) := h.part p2 (i := 1) (by rw [k7]; exact Nat.lt_succ_self 1)
                have hpl : tr 11 (tr 3 c - 1) < N := h.plt p2 (i := 1) (by rw [k7]; exact Nat.lt_succ_self 1)
                rw [hp1]
                by_cases e11 : tr 11 (tr 3 c - 1) = c
                · rw [if_neg (not_not_intro (by rw [e11])), if_neg (by decide), if_pos ⟨ex, Or.inr (Or.inl ⟨k7, e11⟩)⟩]
                  exact ⟨rfl, fun u hu => by obtain rfl := Option.some.inj hu; exact p2⟩
                · rw [if_pos (fun z => e11 ((nI_eq (by omega) (by omega)).mp z)), if_pos rfl, if_neg (by omega)]
                  exact ih
          · rw [if_pos (fun z => ex ((nI_eq (by omega) (by omega)).mp z)), if_neg (fun z => ex z.1)]
            exact ih
        · have eb : t_binds (kF S 0) (kF S 3) (kF S 4) N (nI (tr 3 c - 1)) (nI c) = 0 := by
            unfold t_binds
            rw [hk, if_neg (kn_ne (x := 3) (k := 3) rfl hk11 (by decide) (fun z => hl (Or.inl z))), if_neg (kn_ne (x := 8) (k := 8) rfl hk11 (by decide) (fun z => hl (Or.inr (Or.inr z)))), if_pos (kn_ne (x := 7) (k := 7) rfl hk11 (by decide) (fun z => hl (Or.inr (Or.inl z))))]
          rw [eb, if_pos (rfl : (0 : Int32) = 0), ite_self, if_neg (show ¬ (tr 1 (tr 3 c - 1) = tr 1 a ∧ (tr 0 (tr 3 c - 1) = 3 ∨ tr 0 (tr 3 c - 1) = 7 ∧ tr 11 (tr 3 c - 1) = c ∨ tr 0 (tr 3 c - 1) = 8)) by omega)]
          exact ih
/-! TYPING's state in the class's rows -/
def GC (gs : Nat → Prop) (z : aS) (S : cS) : Prop := ∀ q, gs q → q < 120 ∧ kF S 23 q = nI (z.1 8 q) ∧ z.1 8 q < nT z ∧ z.1 9 q ≤ 100 ∧ kF S 24 q = if z.1 9 q = 0 then -1 else nI (z.1 9 q - 1)
theorem GC.to {gs : Nat → Prop} {z z' : aS} {S u : cS} (h : GC gs z S) (hk : K89 z z') (hn : nT z ≤ nT z') (e23 : kF u 23 = kF S 23) (e24 : kF u 24 = kF S 24) : GC gs z' u := fun q hq => by
  obtain ⟨a, b, c, d, e⟩ := h q hq
  obtain ⟨k8, k9⟩ := hk q
  rw [k8, k9, e23, e24]
  exact ⟨a, b, by omega, d, e⟩
theorem gc_gives {gs : Nat → Prop} {z : aS} {S u : cS} {n t sch : Nat} {x y : Int32} (h : GC gs z S) (hn : n < 120) (e23 : kF u 23 = upd (kF S 23) n x) (e24 : kF u 24 = upd (kF S 24) n y) (hx : x = nI t) (ht : t < nT z) (hy : y = if sch = 0 then -1 else nI (sch - 1)) (hs : sch ≤ 100) : GC (fun q => q = n ∨ gs q) (gives z n t sch) u := fun q hq => by
  have e8 : (gives z n t sch).1 8 q = if q = n then t else z.1 8 q := rfl
  have e9 : (gives z n t sch).1 9 q = if q = n then sch else z.1 9 q := rfl
  rw [e8, e9, e23, e24]
  by_cases e : q = n
  · rw [e, if_pos rfl, if_pos rfl, upd_s, upd_s]
    exact ⟨hn, hx, ht, hs, hy⟩
  · rw [if_neg e, if_neg e, upd_n e, upd_n e]
    exact h q (hq.resolve_left e)
def YC (S u : cS) (Y tm c : Nat) (gs : Nat → Prop) (z w : aS) (tm' : Nat) (gs' : Nat → Prop) : Prop := KT u w ∧ KQ u w ∧ KM0 u tm' ∧ u.1 8 = nI tm' ∧ (tm ≤ tm' ∧ tm' + stp z ≤ tm + stp w + c ∧ stp w ≤ 1500) ∧ (∀ j, j < Y → kF u 12 j = kF S 12 j ∧ kF u 13 j = kF S 13 j) ∧ (kK u 23 = 120 ∧ kK u 24 = 120) ∧ (sto w = 0 → (∀ q, gs q → gs' q) ∧ GC gs' w u)
def PL (u : cS) (w : aS) (n : Nat) : Prop := (∃ p, p < 120 ∧ u.1 13 = nI p ∧ w.1 0 4 = p + 1) ∨ (u.1 13 = -9 ∧ w.1 0 4 = n + 1)
def YF (S u : cS) (Y tm c : Nat) (gs : Nat → Prop) (n : Nat) (z : aS) (r : aS × Nat) (v : Int32) : Prop := (∃ tm' gs', YC S u Y tm c gs z r.1 tm' gs') ∧ (sto r.1 = 0 → v = nI r.2 ∧ r.2 < nT r.1 ∧ u.1 12 = nI (stp r.1) ∧ u.1 13 = -9) ∧ (sto r.1 ≠ 0 → v = sc (sto r.1) ∧ PL u r.1 n)
def YE (S u : cS) (Y tm c : Nat) (gs : Nat → Prop) (z : aS) (r : aS × Nat) (v : Int32) : Prop := (∃ tm' gs', YC S u Y tm c gs z r.1 tm' gs') ∧ (sto r.1 = 0 → v = nI r.2 ∧ r.2 < nT r.1 ∧ u.1 12 = nI (stp r.1) ∧ u.1 13 = -9) ∧ (sto r.1 ≠ 0 → v = sc (sto r.1) ∧ ∃ p, p < 120 ∧ u.1 13 = nI p ∧ r.1.1 0 4 = p + 1)
theorem YC.cm {S u : cS} {Y tm c c' t1 : Nat} {gs gs1 : Nat → Prop} {z w : aS} (h : YC S u Y tm c gs z w t1 gs1) (hc : c ≤ c') : YC S u Y tm c' gs z w t1 gs1 := by
  obtain ⟨a1, a2, a3, a4, ⟨a5, a6, a7⟩, a8⟩ := h
  exact ⟨a1, a2, a3, a4, ⟨a5, by omega, a7⟩, a8⟩
theorem YC.tr {S S1 u : cS} {Y Y1 tm t1 t2 c1 c2 : Nat} {gs gs1 gs2 : Nat → Prop} {z w r : aS} (h : YC S S1 Y tm c1 gs z w t1 gs1) (h' : YC S1 u Y1 t1 c2 gs1 w r t2 gs2) (hY : Y ≤ Y1) (h0 : sto w = 0) : YC S u Y tm (c1 + c2) gs z r t2 gs2 := by
  obtain ⟨a1, a2, a3, a4, ⟨a5, a6, a7⟩, a8, a9, a10⟩ := h
  obtain ⟨b1, b2, b3, b4, ⟨b5, b6, b7⟩, b8, b9, b10⟩ := h'
  exact ⟨b1, b2, b3, b4, ⟨by omega, by omega, b7⟩, sg_tr a8 b8 hY, b9, fun e => ⟨fun q hq => (b10 e).1 q ((a10 h0).1 q hq), (b10 e).2⟩⟩
/-- a step of the TYPES alone -/
theorem YC.leaf {rs is : List Nat} {S S1 u : cS} {Y tm c t1 : Nat} {gs gs1 : Nat → Prop} {z w w' : aS} (h : YC S S1 Y tm c gs z w t1 gs1) (a : AW rs is S1 u) (kt : KT u w') (kq : KQ u w') (hr : ∀ r ∈ [12, 13, 23, 24, 25, 26], r ∉ rs) (hi : 8 ∉ is) (k89 : K89 w w') (hn : nT w ≤ nT w') (hs : stp w' = stp w) (h0 : sto w = 0) : YC S u Y tm c gs z w' t1 gs1 := by
  obtain ⟨a1, a2, a3, a4, ⟨a5, a6, a7⟩, a8, ⟨a9, a9b⟩, a10⟩ := h
  have q : ∀ r, r < 35 → r ∈ [12, 13, 23, 24, 25, 26] → kF u r = kF S1 r ∧ kK u r = kK S1 r := fun r h1 h2 => a.2.1 r (by omega) (by rw [Nat.min_eq_left (by omega)]; exact hr r h2)
  obtain ⟨f23, k23⟩ := q 23 (by decide) (by decide)
  obtain ⟨f24, k24⟩ := q 24 (by decide) (by decide)
  exact ⟨kt, kq, a3.aw a (fun r h => hr r (by revert r; decide)), (a.1 8 hi).trans a4, ⟨a5, by rw [hs]; exact a6, by rw [hs]; exact a7⟩, sg_aw a8 a ⟨hr 12 (by decide), hr 13 (by decide)⟩, ⟨k23.trans a9, k24.trans a9b⟩, fun _ => ⟨(a10 h0).1, (a10 h0).2.to k89 hn f23 f24⟩⟩
/-- the same with a stop told -/
theorem yc_stops {S u : cS} {Y tm c t1 : Nat} {gs gs1 : Nat → Prop} {z w : aS} (h : YC S u Y tm c gs z w t1 gs1) (a b : Nat) (ha : a ≠ 0) (h0 : sto w = 0) : YC S u Y tm c gs z (stops w a b) t1 gs1 := by
  obtain ⟨a1, a2, a3, a4, ⟨a5, a6, a7⟩, a8, a9, a10⟩ := h
  exact ⟨kt_stops a1 a b, KQ.aw a2 (rs := []) (is := []) AW.rf (by decide) (q_stops w a b) (n_stops w a b), a3, a4, ⟨a5, by rw [stp_stops]; exact a6, by rw [stp_stops]; exact a7⟩, a8, a9, fun e => absurd ((sto_sp9 h0).symm.trans e) ha⟩
theorem yc_sm {S u : cS} {Y tm c t1 : Nat} {gs gs1 : Nat → Prop} {z w w' : aS} (h : YC S u Y tm c gs z w t1 gs1) (m : SM w w') (h0 : sto w ≠ 0) : YC S u Y tm c gs z w' t1 gs1 := by
  obtain ⟨a1, a2, a3, a4, ⟨a5, a6, a7⟩, a8, a9, a10⟩ := h
  exact ⟨kt_sm a1 m, kq_sm a2 m, a3, a4, ⟨a5, by rw [m.sp]; exact a6, by rw [m.sp]; exact a7⟩, a8, a9, fun e => absurd e (m.ne h0)⟩
/-- who asks -/
theorem yc_askn {S u : cS} {Y tm c t1 : Nat} {gs gs1 : Nat → Prop} {z w : aS} (h : YC S u Y tm c gs z w t1 gs1) (n : Nat) : YC S u Y tm c gs z (w1 w 0 5 n) t1 gs1 := by
  obtain ⟨a1, a2, a3, a4, a5, a8, a9, a10⟩ := h
  exact ⟨a1.w 0 5 n (Or.inl ⟨rfl, by decide⟩), KQ.aw a2 (rs := []) (is := []) AW.rf (by decide) rfl rfl, a3, a4, a5, a8, a9, fun e => ⟨(a10 e).1, (a10 e).2.to (k_w1 w 0 5 n (by decide)) (Nat.le_refl _) rfl rfl⟩⟩
/-- UNDER, behind who asks -/
theorem yc_under {rs is : List Nat} {S S1 u : cS} {Y tm c t1 t2 : Nat} {gs gs1 : Nat → Prop} {z w w' : aS} (h : YC S S1 Y tm c gs z w t1 gs1) (hu : UC S1 u Y t1 w w' t2) (a : AW rs is S1 u) (hr : 23 ∉ rs ∧ 24 ∉ rs) (k89 : K89 w w') (hn : nT w ≤ nT w') (hs : sto w' = 0 → sto w = 0) : YC S u Y tm c gs z w' t2 gs1 := by
  obtain ⟨a1, a2, a3, a4, ⟨a5, a6, a7⟩, a8, ⟨a9, a9b⟩, a10⟩ := h
  obtain ⟨b1, b2, b3, b4, b5, b6, b7, b8⟩ := hu
  obtain ⟨f23, k23⟩ := a.2.1 23 (lt35 (by decide)) hr.1
  obtain ⟨f24, k24⟩ := a.2.1 24 (lt35 (by decide)) hr.2
  exact ⟨b1, b2, b3, b4, ⟨by omega, by omega, b7⟩, sg_tr a8 b8 (Nat.le_refl _), ⟨k23.trans a9, k24.trans a9b⟩, fun e => ⟨(a10 (hs e)).1, (a10 (hs e)).2.to k89 hn f23 f24⟩⟩
theorem yf_good {S u : cS} {Y tm c t1 n x : Nat} {gs gs1 : Nat → Prop} {z w : aS} {r : aS × Nat} {v : Int32} (h : YC S u Y tm c gs z w t1 gs1) (h0 : sto w = 0) (hv : v = nI x) (hx : x < nT w) (h12 : u.1 12 = nI (stp w)) (h13 : u.1 13 = -9) (e : r = (w, x)) : YF S u Y tm c gs n z r v := by
  subst e
  exact ⟨⟨t1, gs1, h⟩, fun _ => ⟨hv, hx, h12, h13⟩, fun hs => absurd h0 hs⟩
theorem yf_bad {S u : cS} {Y tm c t1 n x : Nat} {gs gs1 : Nat → Prop} {z w w' : aS} {r : aS × Nat} {v : Int32} (h : YC S u Y tm c gs z w t1 gs1) (hs : sto w ≠ 0) (m : SM w w') (hv : v = sc (sto w)) (hp : PL u w n) (e : r = (w', x)) : YF S u Y tm c gs n z r v := by
  subst e
  refine ⟨⟨t1, gs1, yc_sm h m hs⟩, fun h0 => absurd h0 (m.ne hs), fun _ => ⟨by rw [hv, m.st], ?_⟩⟩
  unfold PL
  rw [m.wh]
  exact hp
theorem pl_stops {u : cS} {w : aS} {a n : Nat} (h0 : sto w = 0) (h13 : u.1 13 = -9) : PL u (stops w a n) n := Or.inr ⟨h13, by rw [show stops w a n = w1 (w1 w 0 3 a) 0 4 (n + 1) from if_pos h0]; rfl⟩
theorem pl_wh {u : cS} {w w' : aS} {n : Nat} (h : Wh (w1 w 0 5 n) w') (h0 : sto w = 0) (h1 : sto w' ≠ 0) (h13 : u.1 13 = -9) : PL u w' n := by
  obtain ⟨-, ⟨e, -⟩ | ⟨-, -, e⟩⟩ := h
  · exact absurd (e.trans h0) h1
  · exact Or.inr ⟨h13, e⟩
theorem kq_fun {S u : cS} {z : aS} {a b : Nat} (kq : KQ S z) (hw : AW [6, 7, 8, 9, 16] [] S u) (la : kF u 16 (nT z) = -9 ∧ ∀ t, t < nT z → kF u 16 t = kF S 16 t) (k16 : kK u 16 = nT z + 1) (h0 : sto z = 0) (ht : nT z ≠ 602) : KQ u (mkA z a b).1 := by
  have en : nT (mkA z a b).1 = nT z + 1 := by rw [mkA_e h0 ht]; rfl
  have q : ∀ r, r < 35 → r ∉ [6, 7, 8, 9, 16] → kF u r = kF S r ∧ kK u r = kK S r := fun r h1 h2 => hw.2.1 r (by omega) (by rw [Nat.min_eq_left (by omega)]; exact h2)
  exact kq.new (q_mkA z a b) en ⟨k16, la⟩ ⟨(q 17 (by decide) (by decide)).1, (q 18 (by decide) (by decide)).1, (q 17 (by decide) (by decide)).2, (q 18 (by decide) (by decide)).2⟩
theorem kq_rec {S u : cS} {z : aS} {a b : List Nat} (kq : KQ S z) (hw : AW [6, 7, 8, 9, 16, 10, 11, 12, 13] [] S u) (la : kF u 16 (nT z) = -9 ∧ ∀ t, t < nT z → kF u 16 t = kF S 16 t) (k16 : kK u 16 = nT z + 1) (h0 : sto z = 0) (ht : nT z ≠ 602) : KQ u (mkR z a b).1 := by
  have en : nT (mkR z a b).1 = nT z + 1 := by rw [mkR_e h0 ht]; rfl
  have q : ∀ r, r < 35 → r ∉ [6, 7, 8, 9, 16, 10, 11, 12, 13] → kF u r = kF S r ∧ kK u r = kK S r := fun r h1 h2 => hw.2.1 r (by omega) (by rw [Nat.min_eq_left (by omega)]; exact h2)
  exact kq.new (q_mkR z a b) en ⟨k16, la⟩ ⟨(q 17 (by decide) (by decide)).1, (q 18 (by decide) (by decide)).1, (q 17 (by decide) (by decide)).2, (q 18 (by decide) (by decide)).2⟩
theorem kq_var {S u : cS} {z : aS} {l : Nat} (kq : KQ S z) (hw : AW [6, 7, 8, 9, 16, 14, 35] [] S u) (la : kF u 16 (nT z) = -9 ∧ ∀ t, t < nT z → kF u 16 t = kF S 16 t) (k16 : kK u 16 = nT z + 1) : KQ u (newV z l) := by
  have q : ∀ r, r < 35 → r ∉ [6, 7, 8, 9, 16, 14, 35] → kF u r = kF S r ∧ kK u r = kK S r := fun r h1 h2 => hw.2.1 r (by omega) (by rw [Nat.min_eq_left (by omega)]; exact h2)
  exact kq.new rfl rfl ⟨k16, la⟩ ⟨(q 17 (by decide) (by decide)).1, (q 18 (by decide) (by decide)).1, (q 17 (by decide) (by decide)).2, (q 18 (by decide) (by decide)).2⟩
/-! what nodes further up gave stays -/
def Kr (rk : Nat → Nat) (m : Nat) (s s' : aS) : Prop := ∀ q, rk q < m → s'.1 8 q = s.1 8 q ∧ s'.1 9 q = s.1 9 q
theorem Kr.rf {rk : Nat → Nat} {m : Nat} {s : aS} : Kr rk m s s := fun _ _ => ⟨rfl, rfl⟩
theorem Kr.tr {rk : Nat → Nat} {m : Nat} {s s1 s2 : aS} (h : Kr rk m s s1) (h' : Kr rk m s1 s2) : Kr rk m s s2 := fun q hq => ⟨(h' q hq).1.trans (h q hq).1, (h' q hq).2.trans (h q hq).2⟩
theorem Kr.k {rk : Nat → Nat} {m : Nat} {s s' : aS} (h : K89 s s') : Kr rk m s s' := fun q _ => h q
theorem Kr.mono {rk : Nat → Nat} {m m' : Nat} {s s' : aS} (h : Kr rk m s s') (hm : m' ≤ m) : Kr rk m' s s' := fun q hq => h q (Nat.lt_of_lt_of_le hq hm)
theorem kr_w {rk : Nat → Nat} (s : aS) (f n v : Nat) : Kr rk (rk n) s (w1 s f n v) := fun q hq => by
  have e : q ≠ n := fun z => by
    rw [z] at hq
    exact Nat.lt_irrefl _ hq
  constructor
  · show mst s.1 f n v 8 q = _
    unfold mst
    split
    · rfl
    · rfl
  · show mst s.1 f n v 9 q = _
    unfold mst
    split
    · rfl
    · rfl
theorem kr_gives {rk : Nat → Nat} (s : aS) (n t sc : Nat) : Kr rk (rk n) s (gives s n t sc) := (kr_w s 8 n t).tr (kr_w _ 9 n sc)
theorem kr_tys {rk : Nat → Nat} {m : Nat} {f : aS → Nat → aS × Nat} : ∀ (xs : List Nat) (s : aS), (∀ s x, x ∈ xs → Kr rk m s (f s x).1) → Kr rk m s (cpL f s xs).1
  | [], s, _ => Kr.rf
  | x :: xs, s, h => by
    unfold cpL
    split
    · exact Kr.rf
    · exact (h s x List.mem_cons_self).tr (kr_tys xs _ (fun s y hy => h s y (List.mem_cons_of_mem _ hy)))
def RKs (tr : aM) (rk : Nat → Nat) (N : Nat) : Prop := ∀ n, n < N → tr 0 n ≤ 11 ∧ ∀ i, i < prts (tr 0 n) (tr 2 n) → rk n < rk (tr (10 + i) n) ∧ tr (10 + i) n < N
theorem kr_ty {tr : aM} {rk : Nat → Nat} {N top : Nat} (hT : RKs tr rk N) : ∀ k s n l, n < N → Kr rk (rk n) s (ty tr top k s n l).1 := by
  intro k
  induction k with
  | zero =>
    intro s n l _
    exact Kr.k (k_stops s 1 n)
  | succ k ih =>
    intro s n l hn
    by_cases h0 : sto s = 0
    · obtain ⟨h11, hp⟩ := hT n hn
      have part : ∀ i, i < prts (tr 0 n) (tr 2 n) → ∀ s l, Kr rk (rk n) s (ty tr top k s (tr (10 + i) n) l).1 := fun i hi s l => (ih s _ l (hp i hi).2).mono (Nat.le_of_lt (hp i hi).1)
      rcases (by omega : tr 0 n = 0 ∨ tr 0 n = 1 ∨ tr 0 n = 2 ∨ tr 0 n = 3 ∨ tr 0 n = 4 ∨ tr 0 n = 5 ∨ tr 0 n = 6 ∨ tr 0 n = 7 ∨ tr 0 n = 8 ∨ tr 0 n = 9 ∨ tr 0 n = 10 ∨ tr 0 n = 11) with e | e | e | e | e | e | e | e | e | e | e | e
      · rw [ty_0 h0 e]; exact Kr.rf
      · rw [ty_1 h0 e]; exact Kr.rf
      · rw [ty_2 h0 e]; exact Kr.k (k_tyName _ _ _ _ _)
      · have p : prts (tr 0 n) (tr 2 n) = 1 := by rw [e]; rfl
        obtain ⟨Y1, Y2, Y3, Y4, Y5, e1, e2, e3, e4, e5, er⟩ := ty_3 (top := top) (k := k) (l := l) h0 e
        rw [er, e5, e4, e3, e2, e1]
        exact ((((Kr.k (k_fresh _ _ _)).tr (kr_gives _ _ _ _)).tr (part 0 (by rw [p]; decide) _ _)).tr (Kr.k (k_w1 _ 0 5 n (by decide)))).tr (Kr.k (k_mkA _ _ _))
      · have p : prts (tr 0 n) (tr 2 n) = 2 := by rw [e]; rfl
        obtain ⟨Y1, Y2, Y3, Y4, Y5, e1, e2, e3, e4, e5, er⟩ := ty_4 (top := top) (k := k) (l := l) h0 e
        rw [er, e5, e4, e3, e2, e1]
        exact ((((part 0 (by rw [p]; decide) _ _).tr (part 1 (by rw [p]; decide) _ _)).tr (Kr.k (k_fresh _ _ _))).tr (Kr.k (k_mkA _ _ _))).tr (Kr.k (k_puts _ _ _ _))
      · have p : prts (tr 0 n) (tr 2 n) = tr 2 n := by rw [e]; rfl
        rw [ty_5 h0 e]
        have hL : Kr rk (rk n) s (cpL (fun s x => ty tr top k s x l) s (pLs tr n)).1 := kr_tys _ _ (fun s x hx => by
          obtain ⟨i, hi, rfl⟩ := List.mem_map.mp hx
          exact part i (by rw [p]; exact List.mem_range.mp hi) s l)
        split
        · exact hL
        · exact (hL.tr (Kr.k (k_w1 _ 0 5 n (by decide)))).tr (Kr.k (k_mkR _ _ _))
      · have p : prts (tr 0 n) (tr 2 n) = 1 := by rw [e]; rfl
        obtain ⟨Y1, Y2, Y3, Y4, e1, e2, e3, e4, er⟩ := ty_6 (top := top) (k := k) (l := l) h0 e
        rw [er, e4, e3, e2, e1]
        exact (((part 0 (by rw [p]; decide) _ _).tr (Kr.k (k_fresh _ _ _))).tr (Kr.k (k_mkR _ _ _))).tr (Kr.k (k_puts _ _ _ _))
      · have p : prts (tr 0 n) (tr 2 n) = 2 := by rw [e]; rfl
        obtain ⟨Y1, Y2, Y3, e1, e2, e3, er⟩ := ty_7 (top := top) (k := k) (l := l) h0 e
        rw [er, e3, e2, e1]
        exact ((part 0 (by rw [p]; decide) _ _).tr (kr_gives _ _ _ _)).tr (part 1 (by rw [p]; decide) _ _)
      · have p : prts (tr 0 n) (tr 2 n) = 2 := by rw [e]; rfl
        obtain ⟨Y1, Y2, Y3, Y4, Y5, Y6, e1, e2, e3, e4, e5, e6, er⟩ := ty_8 (top := top) (k := k) (l := l) h0 e
        rw [er, e6, e5, e4, e3, e2, e1]
        exact (((((Kr.k (k_fresh _ _ _)).tr (kr_gives _ _ _ _)).tr (part 0 (by rw [p]; decide) _ _)).tr (Kr.k (k_puts _ _ _ _))).tr (kr_w _ 9 n _)).tr (part 1 (by rw [p]; decide) _ _)
      · have p : prts (tr 0 n) (tr 2 n) = 3 := by rw [e]; rfl
        obtain ⟨Y1, Y2, Y3, Y4, Y5, Y6, Y7, e1, e2, e3, e4, e5, e6, e7, er⟩ := ty_9 (top := top) (k := k) (l := l) h0 e
        rw [er, e7, e6, e5, e4, e3, e2, e1]
        exact ((((((part 0 (by rw [p]; decide) _ _).tr (Kr.k (k_puts _ _ _ _))).tr (Kr.k (k_fresh _ _ _))).tr (part 1 (by rw [p]; decide) _ _)).tr (Kr.k (k_puts _ _ _ _))).tr (part 2 (by rw [p]; decide) _ _)).tr (Kr.k (k_puts _ _ _ _))
      · have p : prts (tr 0 n) (tr 2 n) = 2 := by rw [e]; rfl
        obtain ⟨Y1, Y2, Y3, Y4, e1, e2, e3, e4, er⟩ := ty_10 (top := top) (k := k) (l := l) h0 e
        rw [er, e4, e3, e2, e1]
        exact (((part 0 (by rw [p]; decide) _ _).tr (Kr.k (k_puts _ _ _ _))).tr (part 1 (by rw [p]; decide) _ _)).tr (Kr.k (k_puts _ _ _ _))
      · have p : prts (tr 0 n) (tr 2 n) = 2 := by rw [e]; rfl
        obtain ⟨Y1, Y2, Y3, Y4, e1, e2, e3, e4, er⟩ := ty_11 (top := top) (k := k) (l := l) h0 e
        rw [er, e4, e3, e2, e1]
        exact (((part 0 (by rw [p]; decide) _ _).tr (Kr.k (k_puts _ _ _ _))).tr (part 1 (by rw [p]; decide) _ _)).tr (Kr.k (k_puts _ _ _ _))
    · rw [ty_st h0]
      exact Kr.rf
/-- a SCHEME behind a REC: the class writes the VARIABLE again -/
theorem gc_sch {gs : Nat → Prop} {z : aS} {S u : cS} {n t l : Nat} {x : Int32} (h : GC gs z S) (hn : n < 120) (e23 : kF u 23 = upd (kF S 23) n x) (e24 : kF u 24 = upd (kF S 24) n (nI l)) (hx : x = nI t) (ht : t < nT z) (h8 : z.1 8 n = t) (hs : l + 1 ≤ 100) : GC (fun q => q = n ∨ gs q) (w1 z 9 n (l + 1)) u := fun q hq => by
  have e8 : (w1 z 9 n (l + 1)).1 8 q = z.1 8 q := rfl
  have e9 : (w1 z 9 n (l + 1)).1 9 q = if q = n then l + 1 else z.1 9 q := rfl
  rw [e8, e9, e23, e24]
  by_cases e : q = n
  · rw [e, if_pos rfl, upd_s, upd_s, if_neg (by omega), h8]
    exact ⟨hn, hx, ht, hs, rfl⟩
  · rw [if_neg e, upd_n e, upd_n e]
    exact h q (hq.resolve_left e)
/-- a node gives -/
theorem yc_give {rs is : List Nat} {S S1 u : cS} {Y tm c t1 : Nat} {gs gs1 gs2 : Nat → Prop} {z w w' : aS} (h : YC S S1 Y tm c gs z w t1 gs1) (a : AW rs is S1 u) (hr : ∀ r ∈ [6, 7, 8, 9, 10, 11, 12, 13, 14, 16, 17, 18, 25, 26, 35], r ∉ rs) (hi : 8 ∉ is) (k2 : kK u 23 = 120 ∧ kK u 24 = 120) (hm : SM w w') (h0 : sto w = 0) (hg : ∀ q, gs1 q → gs2 q) (gc : GC gs2 w' u) : YC S u Y tm c gs z w' t1 gs2 := by
  obtain ⟨a1, a2, a3, a4, ⟨a5, a6, a7⟩, a8, a9, a10⟩ := h
  exact ⟨kt_sm (a1.aw a (fun r h => hr r (by revert r; decide))) hm, kq_sm (a2.aw a (fun r h => hr r (by revert r; decide)) rfl rfl) hm, a3.aw a (fun r h => hr r (by revert r; decide)), (a.1 8 hi).trans a4, ⟨a5, by rw [hm.sp]; exact a6, by rw [hm.sp]; exact a7⟩, sg_aw a8 a ⟨hr 12 (by decide), hr 13 (by decide)⟩, k2, fun _ => ⟨fun q hq => hg q ((a10 h0).1 q hq), gc⟩⟩
theorem askn_fr {Y : aS × Nat} {w : aS} {n l : Nat} (e : Y = fresh w n l) : askn Y.1 = n := by
  rw [e]
  unfold fresh
  split
  · rfl
  · exact (wc_mkV (w1 w 0 5 n) l).1.1
/-- a step of the TYPES that takes staged fields away: those below stay -/
theorem YC.leaf2 {rs is : List Nat} {S S1 u : cS} {Y tm c t1 : Nat} {gs gs1 : Nat → Prop} {z w w' : aS} (h : YC S S1 Y tm c gs z w t1 gs1) (a : AW rs is S1 u) (kt : KT u w') (kq : KQ u w') (hr : ∀ r ∈ [23, 24, 25, 26], r ∉ rs) (hi : 8 ∉ is) (k89 : K89 w w') (hn : nT w ≤ nT w') (hs : stp w' = stp w) (h0 : sto w = 0) (hsg : ∀ j, j < Y → kF u 12 j = kF S1 12 j ∧ kF u 13 j = kF S1 13 j) : YC S u Y tm c gs z w' t1 gs1 := by
  obtain ⟨a1, a2, a3, a4, ⟨a5, a6, a7⟩, a8, ⟨a9, a9b⟩, a10⟩ := h
  have q : ∀ r, r < 35 → r ∈ [23, 24, 25, 26] → kF u r = kF S1 r ∧ kK u r = kK S1 r := fun r h1 h2 => a.2.1 r (by omega) (by rw [Nat.min_eq_left (by omega)]; exact hr r h2)
  obtain ⟨f23, k23⟩ := q 23 (by decide) (by decide)
  obtain ⟨f24, k24⟩ := q 24 (by decide) (by decide)
  exact ⟨kt, kq, a3.aw a (fun r h => hr r (by revert r; decide)), (a.1 8 hi).trans a4, ⟨a5, by rw [hs]; exact a6, by rw [hs]; exact a7⟩, sg_tr a8 hsg (Nat.le_refl _), ⟨k23.trans a9, k24.trans a9b⟩, fun _ => ⟨(a10 h0).1, (a10 h0).2.to k89 hn f23 f24⟩⟩
/-- a field is staged -/
theorem YC.stg {rs is : List Nat} {S S1 u : cS} {Y Y1 tm c t1 : Nat} {gs gs1 : Nat → Prop} {z w : aS} (h : YC S S1 Y tm c gs z w t1 gs1) (a : AW rs is S1 u) (hsg : ∀ j, j < Y1 → kF u 12 j = kF S1 12 j ∧ kF u 13 j = kF S1 13 j) (hY : Y ≤ Y1) (hr : ∀ r ∈ [6, 7, 8, 9, 10, 11, 14, 16, 17, 18, 23, 24, 25, 26, 35], r ∉ rs) (hi : 8 ∉ is) : YC S u Y tm c gs z w t1 gs1 := by
  obtain ⟨a1, a2, a3, a4, ⟨a5, a6, a7⟩, a8, ⟨a9, a9b⟩, a10⟩ := h
  obtain ⟨f23, k23⟩ := a.2.1 23 (lt35 (by decide)) (hr 23 (by decide))
  obtain ⟨f24, k24⟩ := a.2.1 24 (lt35 (by decide)) (hr 24 (by decide))
  exact ⟨a1.aw a (fun r h => hr r (by revert r; decide)), a2.aw a (fun r h => hr r (by revert r; decide)) rfl rfl, a3.aw a (fun r h => hr r (by revert r; decide)), (a.1 8 hi).trans a4, ⟨a5, a6, a7⟩, sg_tr a8 hsg hY, ⟨k23.trans a9, k24.trans a9b⟩, fun e => ⟨(a10 e).1, (a10 e).2.to K89.rf (Nat.le_refl _) f23 f24⟩⟩
theorem tyName_n {tr : aM} {top n l : Nat} {s : aS} (h : binder tr top (tr 1 n) 120 n = none) : tyName tr top s n l = (stops (w1 s 0 5 n) 2 n, 0) := by
  unfold tyName
  rw [h]
theorem tyName_s {tr : aM} {top n l u : Nat} {s : aS} (h : binder tr top (tr 1 n) 120 n = some u) (h9 : s.1 9 u = 0) : tyName tr top s n l = (w1 s 0 5 n, s.1 8 u) := by
  unfold tyName
  rw [h]
  exact if_pos h9
theorem tyName_c {tr : aM} {top n l u : Nat} {s : aS} (h : binder tr top (tr 1 n) 120 n = some u) (h9 : ¬ s.1 9 u = 0) : tyName tr top s n l = startCp (w1 s 0 5 n) (s.1 8 u) 2 (s.1 9 u - 1) l := by
  unfold tyName
  rw [h]
  exact if_neg h9
theorem lab_at {S : cS} {tr : aM} {mk : Nat → Int32} {N n i : Nat} (h : TC S tr mk N) (hn : n < N) (h5 : tr 0 n = 5) (hi : i < tr 2 n) : t_part (kF S 3) (kF S 5) N (nI n) (nI i) = nI (tr (20 + i) n) := by
  obtain ⟨t0, t1, t2, t3, t4, t5, t6, t7, t8⟩ := h.2 n hn
  rw [part_at hn h.1.1 t3 t4 hi]
  exact (t8 h5 i hi).1
theorem yc_o13 {S S1 : cS} {Y tm c t1 : Nat} {gs gs1 : Nat → Prop} {z w : aS} {x : Int32} (h : YC S S1 Y tm c gs z w t1 gs1) : YC S (cO S1 13 x) Y tm c gs z w t1 gs1 := by
  obtain ⟨a1, a2, a3, a4, a5, a8, a9, a10⟩ := h
  exact ⟨a1, KQ.aw a2 (rs := []) (is := [13]) (AW.o AW.rf (by decide)) (by decide) rfl rfl, a3, (cO_n (by decide)).trans a4, a5, a8, a9, a10⟩
