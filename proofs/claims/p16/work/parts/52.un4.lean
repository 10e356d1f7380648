theorem i_time {s : aS} {y : aG} {c : Nat} (hI : Inv s y c) : Inv (newTime s) y c ∧ Ex s y (newTime s) y := by
  have hE : Ex s y (newTime s) y := ⟨⟨Nat.le_refl _, Nat.le_refl _, Nat.le_refl _, fun _ h => h, fun _ h => Or.inl h⟩, fun _ _ => ⟨rfl, rfl, rfl, rfl, rfl, rfl⟩, fun _ _ => rfl, fun _ _ => ⟨rfl, rfl, rfl, rfl, rfl, rfl, id⟩, fun _ _ => rfl, fun _ h => h⟩
  obtain ⟨hG, hT⟩ := hI
  refine ⟨⟨hG, fun t ht => ?_⟩, hE⟩
  obtain ⟨k1, k2⟩ := hT t ht
  exact ⟨k1.ext ht hE hG.2.2.1.2.2.1 (fun _ x hx => Or.inl hx) (fun _ x hx => Or.inl hx), fun h3 => Vok.ext (k2 h3) k1 ht h3 hE ⟨rfl, rfl⟩ ⟨rfl, rfl, rfl, rfl, rfl, rfl, rfl, rfl, rfl, rfl, rfl⟩ (Nat.le_refl _) (Nat.le_refl _) (Nat.le_refl _) (fun _ h => h) ⟨Nat.le_refl _, Nat.le_refl _⟩ ⟨rfl, fun _ => rfl, rfl⟩⟩
theorem lift_ok {s : aS} {y : aG} {c e z t m x way : Nat} (hw : way ≤ 1) (hI : Inv s y c) (hz : Cx y c e z) (ht : Fi s y t e z) (hx : Cx y c m x) (hi : ih y x = 1) (hl : m < lev s t) (b : Nat) :
    ∃ y', Inv (startCp s t way m m).1 y' c ∧ Ex s y (startCp s t way m m).1 y' ∧ Ku s y (startCp s t way m m).1 y' 0 0 0 b ∧ Got s y t (startCp s t way m m).1 y' (startCp s t way m m).2 m m x := by
  have hzc := hI.1.2.2.1.1
  obtain ⟨i1, i2⟩ := i_time hI
  have hle := ht.2.1
  have hlen := (hz.len hzc).2.2
  have hS : Src y c z e m m x (way = 2) := by
    refine ⟨⟨hz.zok hzc, zlt hI.1 hz, hz.self hzc⟩, ⟨by omega, Nat.le_refl _, hx⟩, fun d hd => ?_, ⟨fun h => by omega, fun _ d x' hd hx' => ?_⟩, fun h => by omega, fun _ => ⟨rfl, hi⟩⟩
    · rw [hx.at hzc hd, hz.at hzc (by omega)]
    · have hd2 : d < e + 1 := by
        rw [← hlen]
        obtain ⟨h9, -⟩ := List.getElem?_eq_some_iff.mp hx'
        exact h9
      unfold Cx at hx' ⊢
      rw [hz.at hzc (by omega)] at hx'
      exact hx'
  obtain ⟨-, y', j1, j2, j3, -, j5⟩ := copy_ok (c := c) (ab := m) (lv := m) (z := x) 60 way (by omega) (newTime s) y t e z i1 (fun i hi => absurd rfl hi) hS (ht.ext (zlt hI.1 hz) i2)
  exact ⟨y', j1, i2.tr j2, (Ku.kp j3 (Nat.le_refl _) b).fr rfl ⟨rfl, rfl, rfl⟩, j5⟩
theorem un_stop {c : Nat} {s : aS} {y : aG} {w p r q v b : Nat} (hI : Inv s y c) : Inv (stops s w p) y c ∧ Ex s y (stops s w p) y ∧ Ku s y (stops s w p) y r q v b := by
  obtain ⟨i1, i2⟩ := i_stops (w := w) (p := p) hI
  exact ⟨i1, i2, ((Ku.kp (kp_stops (N := nT s) (q := 0) (s := s) (y := y) (w := w) (p := p) (ab := 0) (an := True)) (Nat.le_refl _) b).mono (Nat.zero_le _) (Nat.zero_le _) b)⟩
theorem partBy_mem : ∀ (ls ps : List Nat) (x q : Nat), partBy ls ps x = some q → q ∈ ps
  | [], _, _, _, h => by simp [partBy] at h
  | _ :: _, [], _, _, h => by simp [partBy] at h
  | l :: ls, p :: ps, x, q, h => by
    unfold partBy at h
    split at h
    · rw [Option.some.inj h]
      exact List.mem_cons_self
    · exact List.mem_cons_of_mem _ (partBy_mem ls ps x q h)
/-- the first time that a UNDER b is asked -/
theorem asks_ok {f : aS → Nat → Nat → aS} {s : aS} {y : aG} {c a b e z r q v : Nat} (hf : UnF f c) (hI : Inv s y c) (hM : sM y < stp s) (hA : (a, b) ∈ s.2.2) (hm1 : srt s b = 3 → a ∉ ol y b) (hm2 : srt s a = 3 → b ∉ oh y a) (hz : Cx y c e z) (ha : Fi s y a e z) (hb : Fi s y b e z) (hp : ps y a = 1) (hn : ng y b = 1) (hi : ih y z = 1 ∨ srt s b = 0) (hT : Tk s y a b r q v) :
    ∃ y', Inv (asks f s a b) y' c ∧ Ex s y (asks f s a b) y' ∧ Ku s y (asks f s a b) y' r q v b := by
  have hzc := hI.1.2.2.1.1
  have hzl := zlt hI.1 hz
  have hTa := (hI.2 a ha.1).1
  have hTb := (hI.2 b hb.1).1
  unfold asks
  by_cases c1 : srt s a = 0 ∧ a = b
  · rw [if_pos c1]
    obtain ⟨i1, i2⟩ := i_wst (r := 0) (d := 0) hI hM (by omega)
    exact ⟨wst y 0 0, i1, i2, (ku_wst (b := b)).1.mono (Nat.zero_le _) (Nat.zero_le _) b⟩
  rw [if_neg c1]
  by_cases c2 : srt s a = 1 ∧ srt s b = 1
  · rw [if_pos c2]
    obtain ⟨i1, i2⟩ := i_wst (r := 0) (d := 1) hI hM (by omega)
    obtain ⟨k0, k1, k2, k3, k4⟩ := ku_wst (s := s) (y := y) (r := 0) (d := 1) (b := b)
    have hiz : ih y z = 1 := hi.resolve_right (by omega)
    obtain ⟨a1, ⟨a2, a3, a4⟩, ⟨a5, a6⟩, a7, a8, a9, a10, a11, a12, a13⟩ : srt s a = 1 ∧ (one s a < a ∧ two s a < a ∧ lev s a = max (lev s (one s a)) (lev s (two s a))) ∧ (Fi s y (one s a) (lev s a) (zn y a) ∧ Fi s y (two s a) (lev s a) (zn y a)) ∧ (nv y a = 0 → nv y (one s a) = 0 ∧ nv y (two s a) = 0) ∧ ar y a = 0 ∧ rm y a = 0 ∧ (ps y a = 1 → ng y (one s a) = 1 ∧ ps y (two s a) = 1) ∧ (ng y a = 1 → ps y (one s a) = 1 ∧ ng y (two s a) = 1) ∧ (Apc y (one s a) ∧ Apc y (two s a)) := by
      rcases hTa.2 with hh | hh | hh | hh
      · have := hh.1
        omega
      · exact hh
      · have := hh.1
        omega
      · have := hh.1
        omega
    obtain ⟨b1, ⟨b2, b3, b4⟩, ⟨b5, b6⟩, b7, b8, b9, b10, b11, b12, b13⟩ : srt s b = 1 ∧ (one s b < b ∧ two s b < b ∧ lev s b = max (lev s (one s b)) (lev s (two s b))) ∧ (Fi s y (one s b) (lev s b) (zn y b) ∧ Fi s y (two s b) (lev s b) (zn y b)) ∧ (nv y b = 0 → nv y (one s b) = 0 ∧ nv y (two s b) = 0) ∧ ar y b = 0 ∧ rm y b = 0 ∧ (ps y b = 1 → ng y (one s b) = 1 ∧ ps y (two s b) = 1) ∧ (ng y b = 1 → ps y (one s b) = 1 ∧ ng y (two s b) = 1) ∧ (Apc y (one s b) ∧ Apc y (two s b)) := by
      rcases hTb.2 with hh | hh | hh | hh
      · have := hh.1
        omega
      · exact hh
      · have := hh.1
        omega
      · have := hh.1
        omega
    have hla : ¬ lev s a < e := fun h => by
      have := (ha.2.2.2 h).1
      omega
    have hlb : ¬ lev s b < e := fun h => by
      have := (hb.2.2.2 h).1
      omega
    have fa1 := ha.part hzc hz (fun h => (a7 h).1) a5 (fun h => absurd h hla)
    have fa2 := ha.part hzc hz (fun h => (a7 h).2) a6 (fun h => absurd h hla)
    have fb1 := hb.part hzc hz (fun h => (b7 h).1) b5 (fun h => absurd h hlb)
    have fb2 := hb.part hzc hz (fun h => (b7 h).2) b6 (fun h => absurd h hlb)
    have hG := hI.1.2.2.2.2.1
    obtain ⟨y1, j1, j2, j3⟩ := hf.2 s (wst y 0 1) (one s b) (one s a) e z 1 0 0 i1 hz fb1 fa1 (b11 hn).1 (a10 hp).1 (Or.inl hiz) ⟨fun _ h => (b12 h).imp id (fun h => Or.inl ⟨rfl, Or.inr h⟩), ⟨by rw [k1, k2, k3]; omega, by rw [k1, k3, k4]; show (itl y).length + (apl y).length + 0 ≤ sg y + 0 + sA y; omega⟩, ⟨by omega, by omega, by omega⟩, fun h => by omega⟩
    have hE1 := i2.tr j2
    obtain ⟨q1, q2, q3, q4, q5⟩ := j3.1
    obtain ⟨r1, r2⟩ := j3.2.1
    rw [k1, k2, k3] at r1
    rw [k1, k3, k4] at r2
    have hG1 := j1.1.2.2.2.2.1
    obtain ⟨y2, l1, l2, l3⟩ := hf.2 (f s (one s b) (one s a)) y1 (two s a) (two s b) e z 1 0 0 j1 (j3.cx hz) (fa2.ext hzl hE1) (fb2.ext hzl hE1) (by rw [(hE1.2.2.2.1 _ fa2.1).2.2.2.2.1]; exact (a10 hp).2) (by rw [(hE1.2.2.2.1 _ fb2.1).2.2.2.2.2.1]; exact (b11 hn).2) (Or.inl (by rw [q4]; exact hiz)) ⟨fun _ h => (a13.ext (s := s) (s' := f s (one s b) (one s a)) fa2.1 hE1 h).imp id (fun h => Or.inl ⟨rfl, Or.inr h⟩), ⟨by omega, by omega⟩, ⟨by omega, by omega, by omega⟩, fun h => by omega⟩
    refine ⟨y2, l1, hE1.tr l2, ?_⟩
    have h12 := j3.tr (l3.mono (v := 0) (Nat.le_refl _) (Nat.le_refl _) 0) j2
    obtain ⟨u1, ⟨u2, u3⟩, u4, u5⟩ := h12
    rw [k1, k2, k3] at u2
    rw [k1, k3, k4] at u3
    refine ⟨u1, ⟨by omega, by omega⟩, fun t ht => ?_, u5⟩
    have := u4 t ht
    rw [if_neg (by omega)] at this
    exact Nat.le_trans this (Nat.le_add_right _ _)
  rw [if_neg c2]
  by_cases c3 : srt s a = 2 ∧ srt s b = 2
  · rw [if_pos c3]
    obtain ⟨i1, i2⟩ := i_wst (r := 1) (d := 0) hI hM (by omega)
    obtain ⟨k0, k1, k2, k3, k4⟩ := ku_wst (s := s) (y := y) (r := 1) (d := 0) (b := b)
    have hiz : ih y z = 1 := hi.resolve_right (by omega)
    have hpa : ∀ p ∈ parts s a, Fi s y p e z ∧ ps y p = 1 := by
      rcases hTa.2 with hh | hh | hh | hh
      · have := hh.1
        omega
      · have := hh.1
        omega
      · intro p hp'
        obtain ⟨p1, p2, p3, p4, p5, p6⟩ := hh.2.1 p hp'
        exact ⟨ha.part hzc hz p3 p2 (fun h => p4 (ha.2.2.2 h).1), p5 hp⟩
      · have := hh.1
        omega
    have hpb : (∀ p ∈ parts s b, Fi s y p e z ∧ ng y p = 1) ∧ (parts s b).length ≤ 1 := by
      rcases hTb.2 with hh | hh | hh | hh
      · have := hh.1
        omega
      · have := hh.1
        omega
      · refine ⟨fun p hp' => ?_, (hh.2.2.2.2.2 hn).1⟩
        obtain ⟨p1, p2, p3, p4, p5, p6⟩ := hh.2.1 p hp'
        exact ⟨hb.part hzc hz p3 p2 (fun h => p4 (hb.2.2.2 h).1), p6 hn⟩
      · have := hh.1
        omega
    have base : ∃ y', Inv s y' c ∧ Ex s y s y' ∧ Ku s y s y' r q v b := ⟨wst y 1 0, i1, i2, k0.mono (Nat.zero_le _) (Nat.zero_le _) b⟩
    rcases hls : labs s b with _ | ⟨x, ls⟩
    · exact base
    rcases hps : parts s b with _ | ⟨p, ps'⟩
    · exact base
    rw [hps] at hpb
    have hps' : ps' = [] := by
      have := hpb.2
      rw [List.length_cons] at this
      exact List.length_eq_zero_iff.mp (by omega)
    obtain ⟨fp, np⟩ := hpb.1 p (by simp)
    have hnil : ∀ (s' : aS) (m : List Nat), unR f a s' m [] = s' := fun s' m => by cases m <;> rfl
    subst hps'
    show ∃ y', Inv (if sto s ≠ 0 then s else match partBy (labs s a) (parts s a) x with | none => unR f a (stops s 2 (askn s)) ls [] | some q => unR f a (f s q p) ls []) y' c ∧ Ex s y (if sto s ≠ 0 then s else match partBy (labs s a) (parts s a) x with | none => unR f a (stops s 2 (askn s)) ls [] | some q => unR f a (f s q p) ls []) y' ∧ Ku s y (if sto s ≠ 0 then s else match partBy (labs s a) (parts s a) x with | none => unR f a (stops s 2 (askn s)) ls [] | some q => unR f a (f s q p) ls []) y' r q v b
    by_cases hs0 : sto s ≠ 0
    · rw [if_pos hs0]
      exact base
    rw [if_neg hs0]
    rcases hpt : partBy (labs s a) (parts s a) x with _ | q'
    · show ∃ y', Inv (unR f a (stops s 2 (askn s)) ls []) y' c ∧ Ex s y (unR f a (stops s 2 (askn s)) ls []) y' ∧ Ku s y (unR f a (stops s 2 (askn s)) ls []) y' r q v b
      rw [hnil]
      obtain ⟨u1, u2, u3⟩ := un_stop (w := 2) (p := askn s) (r := 0) (q := 0) (v := 0) (b := b) i1
      exact ⟨wst y 1 0, u1, i2.tr u2, (k0.tr u3 i2).mono (Nat.zero_le _) (Nat.zero_le _) b⟩
    · show ∃ y', Inv (unR f a (f s q' p) ls []) y' c ∧ Ex s y (unR f a (f s q' p) ls []) y' ∧ Ku s y (unR f a (f s q' p) ls []) y' r q v b
      rw [hnil]
      obtain ⟨fq', pq'⟩ := hpa q' (partBy_mem _ _ _ _ hpt)
      have hG := hI.1.2.2.2.2.1
      obtain ⟨y1, j1, j2, j3⟩ := hf.2 s (wst y 1 0) q' p e z 1 1 0 i1 hz fq' fp pq' np (Or.inl hiz) ⟨fun _ h => Or.inr (Or.inl ⟨rfl, Or.inl rfl⟩), ⟨by rw [k1, k2, k3]; omega, by rw [k1, k3, k4]; show (itl y).length + (apl y).length + 1 ≤ sg y + 1 + sA y; omega⟩, ⟨by omega, by omega, by omega⟩, fun h => by omega⟩
      refine ⟨y1, j1, i2.tr j2, ?_⟩
      obtain ⟨u1, ⟨u2, u3⟩, u4, u5⟩ := j3
      rw [k1, k2, k3] at u2
      rw [k1, k3, k4] at u3
      refine ⟨u1, ⟨by omega, by omega⟩, fun t ht => ?_, u5⟩
      have := u4 t ht
      rw [if_neg (by omega)] at this
      exact Nat.le_trans this (Nat.le_add_right _ _)
  rw [if_neg c3]
  by_cases c4 : srt s a = 3 ∧ lev s b ≤ lev s a
  · rw [if_pos c4]
    obtain ⟨y', u1, u2, u3⟩ := un_hi hf hI hM hA (hm2 c4.1) hz ha hb hn hi c4.1 c4.2
    exact ⟨y', u1, u2, u3.mono (Nat.zero_le _) (Nat.zero_le _) b⟩
  rw [if_neg c4]
  by_cases c5 : srt s b = 3 ∧ lev s a ≤ lev s b
  · rw [if_pos c5]
    exact un_lo hf hI hM hA (hm1 c5.1) hz ha hb hp (hi.resolve_right (by omega)) c5.1 c5.2 hT
  rw [if_neg c5]
  by_cases c6 : srt s a = 3
  · rw [if_pos c6]
    have hlt : lev s a < lev s b := Nat.lt_of_not_le (fun h => c4 ⟨c6, h⟩)
    have hiz : ih y z = 1 := hi.resolve_right (fun h => by
      rcases hTb.2 with hh | hh | hh | hh
      · have := hh.2.2.1
        omega
      · have := hh.1
        omega
      · have := hh.1
        omega
      · have := hh.1
        omega)
    obtain ⟨v1, v2, v3⟩ := var_at hI hz ha c6
    obtain ⟨i1, i2⟩ := i_wst (r := 0) (d := 0) hI hM (by omega)
    have k0 := (ku_wst (s := s) (y := y) (r := 0) (d := 0) (b := b)).1
    obtain ⟨y1, j1, j2, j3, j4⟩ := lift_ok (way := 1) (m := lev s a) (x := zn y a) (by omega) i1 hz hb v1 (v2 hiz) hlt b
    have hE := i2.tr j2
    by_cases hs : sto (startCp s b 1 (lev s a) (lev s a)).1 ≠ 0
    · rw [hf.1 _ _ _ hs]
      exact ⟨y1, j1, hE, (k0.tr j3 i2).mono (Nat.zero_le _) (Nat.zero_le _) b⟩
    · obtain ⟨g1, g2, g3, g4, g5⟩ := j4 (by omega)
      have hal : Fi s y a (lev s a) (zn y a) := ha.down hzc hz v1 (Nat.le_refl _) ha.2.1
      have hr0 := (nw_of hI ha.1 c6).2.2
      obtain ⟨y2, l1, l2, l3⟩ := hf.2 _ y1 a (startCp s b 1 (lev s a) (lev s a)).2 (lev s a) (zn y a) 0 0 0 j1 (j3.cx v1) (hal.ext (zlt hI.1 v1) hE) g1 (by rw [(hE.2.2.2.1 a ha.1).2.2.2.2.1]; exact hp) (g3 hn) (Or.inl (by rw [j3.1.2.2.2.1]; exact v2 hiz)) (Tk.zero j1.1 (fun h => by
        rw [(hE.2.2.2.1 a ha.1).2.2.2.1] at h
        omega))
      exact ⟨y2, l1, hE.tr l2, ((k0.tr j3 i2).tr (l3.mono (v := 0) (Nat.le_refl _) (Nat.le_refl _) 0) hE).mono (Nat.zero_le _) (Nat.zero_le _) b⟩
  rw [if_neg c6]
  by_cases c7 : srt s b = 3
  · rw [if_pos c7]
    have hlt : lev s b < lev s a := Nat.lt_of_not_le (fun h => c5 ⟨c7, h⟩)
    have hiz : ih y z = 1 := hi.resolve_right (by omega)
    obtain ⟨v1, v2, v3⟩ := var_at hI hz hb c7
    obtain ⟨i1, i2⟩ := i_wst (r := 0) (d := 0) hI hM (by omega)
    have k0 := (ku_wst (s := s) (y := y) (r := 0) (d := 0) (b := b)).1
    obtain ⟨y1, j1, j2, j3, j4⟩ := lift_ok (way := 0) (m := lev s b) (x := zn y b) (by omega) i1 hz ha v1 (v2 hiz) hlt b
    have hE := i2.tr j2
    by_cases hs : sto (startCp s a 0 (lev s b) (lev s b)).1 ≠ 0
    · rw [hf.1 _ _ _ hs]
      exact ⟨y1, j1, hE, (k0.tr j3 i2).mono (Nat.zero_le _) (Nat.zero_le _) b⟩
    · obtain ⟨g1, g2, g3, g4, g5⟩ := j4 (by omega)
      have hbl : Fi s y b (lev s b) (zn y b) := hb.down hzc hz v1 (Nat.le_refl _) hb.2.1
      obtain ⟨y2, l1, l2, l3⟩ := hf.2 _ y1 (startCp s a 0 (lev s b) (lev s b)).2 b (lev s b) (zn y b) 0 0 0 j1 (j3.cx v1) g1 (hbl.ext (zlt hI.1 v1) hE) (g2 hp) (by rw [(hE.2.2.2.1 b hb.1).2.2.2.2.2.1]; exact hn) (Or.inl (by rw [j3.1.2.2.2.1]; exact v2 hiz)) (Tk.zero j1.1 (fun h => by
        have := ((g5 hlt).2.2 c6).2.2.1
        omega))
      exact ⟨y2, l1, hE.tr l2, ((k0.tr j3 i2).tr (l3.mono (v := 0) (Nat.le_refl _) (Nat.le_refl _) 0) hE).mono (Nat.zero_le _) (Nat.zero_le _) b⟩
  rw [if_neg c7]
  obtain ⟨i1, i2⟩ := i_wst (r := 0) (d := 0) hI hM (by omega)
  obtain ⟨u1, u2, u3⟩ := un_stop (w := 2) (p := askn s) (r := 0) (q := 0) (v := 0) (b := b) i1
  exact ⟨wst y 0 0, u1, i2.tr u2, ((ku_wst (b := b)).1.tr u3 i2).mono (Nat.zero_le _) (Nat.zero_le _) b⟩
