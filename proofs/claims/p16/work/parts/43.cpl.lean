theorem Src.zlt {s : aS} {y : aG} {c g e ab lv z : Nat} {an : Prop} (h : Src y c g e ab lv z an) (hG : Glo s y c) : z < sZ y := hG.2.2.1.2.2.1 c hG.2.2.1.2.1 z (List.mem_of_getElem? h.2.1.2.2)
theorem cpL_ok {f : aS → Nat → aS × Nat} {c ab lv z e g : Nat} {an : Prop} (hf : CpF f c ab lv z an) : ∀ (l : List Nat) (s : aS) (y : aG), Inv s y c → Mm s y lv z → Src y c g e ab lv z an → (∀ p ∈ l, Fi s y p e g) →
    (sto s ≠ 0 → sto (cpL f s l).1 ≠ 0) ∧ ∃ y', Inv (cpL f s l).1 y' c ∧ Ex s y (cpL f s l).1 y' ∧ Kp (nT s) 0 s y (cpL f s l).1 y' ab an ∧ Mm (cpL f s l).1 y' lv z ∧
      (sto (cpL f s l).1 = 0 → (cpL f s l).2.length = l.length ∧ (∀ q ∈ (cpL f s l).2, Fi (cpL f s l).1 y' q lv z) ∧ ((∀ p ∈ l, ps y p = 1) → ∀ q ∈ (cpL f s l).2, ps y' q = 1) ∧ ((∀ p ∈ l, ng y p = 1) → ∀ q ∈ (cpL f s l).2, ng y' q = 1) ∧ ((∃ p ∈ l, ab < lev s p) → ∃ q ∈ (cpL f s l).2, lev (cpL f s l).1 q = lv))
  | [], s, y, hI, hM, _, _ => ⟨fun h => h, y, hI, Ex.rf, Kp.rf, hM, fun _ => ⟨rfl, fun q hq => absurd hq (by simp [cpL]), fun _ q hq => absurd hq (by simp [cpL]), fun _ q hq => absurd hq (by simp [cpL]), fun ⟨p, hp, _⟩ => absurd hp (by simp)⟩⟩
  | x :: l, s, y, hI, hM, hS, hl => by
    by_cases h0 : sto s ≠ 0
    · have eq : cpL f s (x :: l) = (s, []) := by
        show (if sto s ≠ 0 then (s, []) else _) = _
        rw [if_pos h0]
      rw [eq]
      exact ⟨fun h => h, y, hI, Ex.rf, Kp.rf, hM, fun h => absurd h h0⟩
    · have eq : cpL f s (x :: l) = ((cpL f (f s x).1 l).1, (f s x).2 :: (cpL f (f s x).1 l).2) := by
        show (if sto s ≠ 0 then (s, []) else _) = _
        rw [if_neg h0]
      rw [eq]
      obtain ⟨-, y1, hI1, hE1, hK1, hM1, hR1⟩ := hf s y x e g hI hM hS (hl x (by simp))
      have hgl : g < sZ y := hS.1.2.1
      obtain ⟨hst, y2, hI2, hE2, hK2, hM2, hR2⟩ := cpL_ok hf l (f s x).1 y1 hI1 hM1 (hS.kp hK1) (fun p hp => (hl p (by simp [hp])).ext hgl hE1)
      refine ⟨fun h => absurd h h0, y2, hI2, hE1.tr hE2, hK1.tr (hK2.mono hE1.1.1 (Nat.le_refl _)) hE1 (Nat.le_refl _), hM2, fun hst2 => ?_⟩
      have hst1 : sto (f s x).1 = 0 := by
        apply Classical.byContradiction
        intro h
        exact hst h hst2
      obtain ⟨a1, a2, a3, a4, a5⟩ := hR2 hst2
      obtain ⟨b1, b2, b3, b4, b5⟩ := hR1 hst1
      have hzl : z < sZ y1 := Src.zlt (hS.kp hK1) hI1.1
      have hx := hl x (by simp)
      refine ⟨by simp [a1], fun q hq => ?_, fun h q hq => ?_, fun h q hq => ?_, fun h => ?_⟩
      · rcases List.mem_cons.mp hq with hq | hq
        · rw [hq]
          exact b1.ext hzl hE2
        · exact a2 q hq
      · rcases List.mem_cons.mp hq with hq | hq
        · rw [hq, (hE2.2.2.2.1 _ b1.1).2.2.2.2.1]
          exact b2 (h x (by simp))
        · exact a3 (fun p hp => by rw [(hE1.2.2.2.1 p (hl p (by simp [hp])).1).2.2.2.2.1]; exact h p (by simp [hp])) q hq
      · rcases List.mem_cons.mp hq with hq | hq
        · rw [hq, (hE2.2.2.2.1 _ b1.1).2.2.2.2.2.1]
          exact b3 (h x (by simp))
        · exact a4 (fun p hp => by rw [(hE1.2.2.2.1 p (hl p (by simp [hp])).1).2.2.2.2.2.1]; exact h p (by simp [hp])) q hq
      · obtain ⟨p, hp, hpl⟩ := h
        rcases List.mem_cons.mp hp with hp | hp
        · rw [hp] at hpl
          exact ⟨_, List.mem_cons_self, by rw [(hE2.2.1 _ b1.1).2.1]; exact (b5 hpl).1⟩
        · obtain ⟨q, hq, hql⟩ := a5 ⟨p, hp, by rw [(hE1.2.1 p (hl p (by simp [hp])).1).2.1]; exact hpl⟩
          exact ⟨q, List.mem_cons_of_mem _ hq, hql⟩
theorem fc_cons {s : aS} {y : aG} {x : Nat} {l : List Nat} : fc s y (x :: l) = fc s y l + (if srt s x = 3 ∨ srt s x = 0 ∨ rm y x = 1 then 1 else 0) := by
  unfold fc
  rw [List.countP_cons]
  congr 1
  unfold fre
  by_cases h : srt s x = 3 ∨ srt s x = 0 ∨ rm y x = 1
  · rw [if_pos h, if_pos (decide_eq_true h)]
  · rw [if_neg h, if_neg (by simp only [decide_eq_true_eq]; exact h)]
/-- what a side may still get -/
def al (y : aG) (n side : Nat) : Nat := if side = 0 then xl y n + kl y n else xh y n + kh y n
theorem cpR_ok {f : aS → Nat → aS × Nat} {c ab lv z e g n side N : Nat} {an : Prop} (hf : CpF f c ab lv z an) (hs : side ≤ 1) (han : an ∨ lv ≤ ab) (hNn : N ≤ n) : ∀ (l : List Nat) (s : aS) (y : aG), Inv s y c → Mm s y lv z → Src y c g e ab lv z an → n < nT s → srt s n = 3 → lev s n = lv → zn y n = z →
    (∀ p ∈ l, Fi s y p e g ∧ (side = 0 → ps y p = 1 ∧ (rm y p = 1 → it y p = 1)) ∧ (side = 1 → ng y p = 1)) → fc s y (row s side n) + fc s y l ≤ al y n side → bnd s + fc s y l ≤ vb y →
    (sto s ≠ 0 → sto (cpR f n side s l) ≠ 0) ∧ ∃ y', Inv (cpR f n side s l) y' c ∧ Ex s y (cpR f n side s l) y' ∧ Kp N (fc s y l) s y (cpR f n side s l) y' ab an ∧ Mm (cpR f n side s l) y' lv z ∧ (row (cpR f n side s l) (1 - side) n = row s (1 - side) n ∧ al y' n 0 = al y n 0 ∧ al y' n 1 = al y n 1)
  | [], s, y, hI, hM, _, _, _, _, _, _, _, _ => ⟨fun h => h, y, hI, Ex.rf, Kp.rf, hM, rfl, rfl, rfl⟩
  | x :: l, s, y, hI, hM, hS, hn, hn3, hnl, hnz, hl, hfc, hb => by
    by_cases h0 : sto s ≠ 0
    · have eq : cpR f n side s (x :: l) = s := by
        show (if sto s ≠ 0 then s else _) = _
        rw [if_pos h0]
      rw [eq]
      exact ⟨fun h => h, y, hI, Ex.rf, Kp.rf, hM, rfl, rfl, rfl⟩
    · have eq : cpR f n side s (x :: l) = cpR f n side (if sto (f s x).1 = 0 then bind (f s x).1 n side (f s x).2 else (f s x).1) l := by
        show (if sto s ≠ 0 then s else _) = _
        rw [if_neg h0]
      rw [eq]
      obtain ⟨hx, hx0, hx1⟩ := hl x (by simp)
      obtain ⟨-, y1, hI1, hE1, hK1, hM1, hR1⟩ := hf s y x _ g hI hM hS hx
      have hK1b := hK1
      obtain ⟨ka, kb, kc, kd, ke, kf1, kf2⟩ := hK1b
      obtain ⟨kd1, kd2, kd3, kd4, kd5, kd6, kd7, kd8, kd9⟩ := kd n hn
      obtain ⟨ke1, ke2, ke3, ke4⟩ := ke n hn (by rw [hnl]; exact han)
      have hgl : g < sZ y := hS.1.2.1
      have hrows : ∀ sd, sd ≤ 1 → row (f s x).1 sd n = row s sd n := fun sd hsd => by
        rcases (by omega : sd = 0 ∨ sd = 1) with h | h <;> subst h
        · exact ke1
        · exact ke2
      have hT := (hI.2 n hn).1.rows hn3
      have hfcr : fc (f s x).1 y1 (row s side n) = fc s y (row s side n) := fc.ext (fun p hp => by
        have hp' : p < nT s := by
          rcases (by omega : side = 0 ∨ side = 1) with h | h
          · rw [h] at hp
            exact (hT.1 p hp).1.1
          · rw [h] at hp
            exact (hT.2 p hp).1.1
        exact ⟨(hE1.2.1 p hp').1, (hE1.2.2.2.1 p hp').2.2.2.1⟩)
      have hfcl : fc (f s x).1 y1 l = fc s y l := fc.ext (fun p hp => by
        have hp' := (hl p (by simp [hp])).1.1
        exact ⟨(hE1.2.1 p hp').1, (hE1.2.2.2.1 p hp').2.2.2.1⟩)
      have hal : ∀ sd, al y1 n sd = al y n sd := fun sd => by
        unfold al
        rw [kd1, kd2, ke3, ke4]
      rw [fc_cons] at hfc hb ⊢
      have hn1 := hE1.2.1 n hn
      have hz1 := hE1.2.2.2.1 n hn
      by_cases h1 : sto (f s x).1 = 0
      · rw [if_pos h1]
        obtain ⟨b1, b2, b3, b4, b5⟩ := hR1 h1
        have hzl : z < sZ y1 := Src.zlt (hS.kp hK1) hI1.1
        have hFi : Fi (f s x).1 y1 (f s x).2 (lev (f s x).1 n) (zn y1 n) := by
          rw [hn1.2.1, hz1.1, hnl, hnz]
          exact b1
        have hq0 : side = 0 → ps y1 (f s x).2 = 1 ∧ (rm y1 (f s x).2 = 1 → it y1 (f s x).2 = 1) := fun h => by
          refine ⟨b2 (hx0 h).1, fun hr => ?_⟩
          by_cases h2 : lev s x ≤ ab
          · rw [b4 h2] at hr ⊢
            rw [(hE1.2.2.2.1 x hx.1).2.2.2.1] at hr
            rw [kb.2.2.1]
            exact (hx0 h).2 hr
          · exfalso
            obtain ⟨-, c2, c3⟩ := b5 (by omega)
            by_cases h3 : srt s x = 3
            · have h4 := c2 h3
              obtain ⟨-, hh | hh | hh | hh⟩ := (hI1.2 _ b1.1).1
              · omega
              · omega
              · omega
              · have := hh.2.2.2.1.2.2.1
                omega
            · have := (c3 h3).2.2.1
              omega
        have hq1 : side = 1 → ng y1 (f s x).2 = 1 := fun h => b3 (hx1 h)
        have hfree : (srt (f s x).1 (f s x).2 = 3 ∨ srt (f s x).1 (f s x).2 = 0 ∨ rm y1 (f s x).2 = 1) → (srt s x = 3 ∨ srt s x = 0 ∨ rm y x = 1) := fun h => by
          by_cases h2 : lev s x ≤ ab
          · rw [b4 h2] at h
            rw [(hE1.2.1 x hx.1).1, (hE1.2.2.2.1 x hx.1).2.2.2.1] at h
            exact h
          · by_cases h3 : srt s x = 3
            · exact Or.inl h3
            · have h4 := (b5 (by omega)).2.2 h3
              omega
        have cont : ∀ y2, Inv (bind (f s x).1 n side (f s x).2) y2 c → Ex (f s x).1 y1 (bind (f s x).1 n side (f s x).2) y2 → y2 = y1 ∨ y2 = ycn y1 → fc (f s x).1 y1 (row s side n ++ [(f s x).2]) + fc s y l ≤ al y n side → bnd (f s x).1 + 1 + fc s y l ≤ vb y2 → bnd (f s x).1 + 1 + vb y ≤ bnd s + vb y2 + (if srt s x = 3 ∨ srt s x = 0 ∨ rm y x = 1 then 1 else 0) → nT s + sN y2 + nV (f s x).1 ≤ nT (f s x).1 + sN y + nV s →
            (sto s ≠ 0 → sto (cpR f n side (bind (f s x).1 n side (f s x).2) l) ≠ 0) ∧ ∃ y', Inv (cpR f n side (bind (f s x).1 n side (f s x).2) l) y' c ∧ Ex s y (cpR f n side (bind (f s x).1 n side (f s x).2) l) y' ∧ Kp N (fc s y l + (if srt s x = 3 ∨ srt s x = 0 ∨ rm y x = 1 then 1 else 0)) s y (cpR f n side (bind (f s x).1 n side (f s x).2) l) y' ab an ∧ Mm (cpR f n side (bind (f s x).1 n side (f s x).2) l) y' lv z ∧ (row (cpR f n side (bind (f s x).1 n side (f s x).2) l) (1 - side) n = row s (1 - side) n ∧ al y' n 0 = al y n 0 ∧ al y' n 1 = al y n 1) := by
          intro y2 hI2 hE2 hy2 hfc2 hb2 hb3 hN2
          have hKb : Kp N (if srt s x = 3 ∨ srt s x = 0 ∨ rm y x = 1 then 1 else 0) s y (bind (f s x).1 n side (f s x).2) y2 ab an := by
            have hvo : ∀ t, t < N → row (bind (f s x).1 n side (f s x).2) 0 t = row (f s x).1 0 t ∧ row (bind (f s x).1 n side (f s x).2) 1 t = row (f s x).1 1 t := fun t ht => by
              rw [row_bind, row_bind]
              have hne : t ≠ n := by omega
              simp [hne]
            rcases hy2 with hy2 | hy2
            · subst hy2
              exact ⟨ka, kb, kc, fun t ht => kd t (by omega), fun t ht ha => by
                rw [(hvo t ht).1, (hvo t ht).2]
                exact ke t (by omega) ha, ⟨hb3, hN2⟩⟩
            · subst hy2
              exact ⟨ka, kb, kc, fun t ht => kd t (by omega), fun t ht ha => by
                rw [(hvo t ht).1, (hvo t ht).2]
                exact ke t (by omega) ha, ⟨hb3, hN2⟩⟩
          have hal2 : ∀ sd, al y2 n sd = al y n sd := fun sd => by
            rcases hy2 with hy2 | hy2
            · rw [hy2]
              exact hal sd
            · rw [hy2]
              exact hal sd
          have hE3 := hE1.tr hE2
          have hrb : row (bind (f s x).1 n side (f s x).2) side n = row s side n ++ [(f s x).2] := by
            rw [row_bind, if_pos rfl, if_pos rfl, hrows side hs]
          have hfb : ∀ m : List Nat, fc (bind (f s x).1 n side (f s x).2) y2 m = fc (f s x).1 y1 m := fun m => by
            rcases hy2 with hy2 | hy2 <;> (rw [hy2]; rfl)
          obtain ⟨p1, p2, p3, -, -, -⟩ := hE3.2.1 n hn
          obtain ⟨r1, -⟩ := hE3.2.2.2.1 n hn
          obtain ⟨hst, y3, hI3, hE4, hK3, hM3, hr3, ha30, ha31⟩ := cpR_ok hf hs han hNn l (bind (f s x).1 n side (f s x).2) y2 hI2 (Mm.ext hM1 hzl hE2 rfl) (hS.kp hKb) (by have := hE3.1.1; omega) (p1.trans hn3) (p2.trans hnl) (r1.trans hnz)
            (fun p hp => by
              obtain ⟨i1, i2, i3⟩ := hl p (by simp [hp])
              obtain ⟨-, -, -, d4, d5, d6, d7⟩ := hE3.2.2.2.1 p i1.1
              rw [d4, d5, d6]
              exact ⟨i1.ext hgl hE3, fun h => ⟨(i2 h).1, fun hr => d7 ((i2 h).2 hr)⟩, i3⟩)
            (by rw [hrb, hfb, hfb, hfcl, hal2]; exact hfc2) (by rw [hfb, hfcl]; exact hb2)
          rw [hfb, hfcl] at hK3
          refine ⟨fun h => absurd h h0, y3, hI3, hE3.tr hE4, ?_, hM3, ?_, by rw [ha30, hal2], by rw [ha31, hal2]⟩
          · have := hKb.tr hK3 hE3 (by omega)
            rw [Nat.add_comm (fc s y l)]
            exact this
          · rw [hr3, row_bind, if_neg (by omega)]
            exact hrows (1 - side) (by omega)
        have hbv : bnd (f s x).1 + vb y ≤ bnd s + vb y1 := by omega
        by_cases h2 : srt (f s x).1 (f s x).2 = 3 ∨ srt (f s x).1 (f s x).2 = 0 ∨ rm y1 (f s x).2 = 1
        · have h3 := hfree h2
          rw [if_pos h3] at hfc hb
          have hg1 := glo_at hI.1
          obtain ⟨i1, i2⟩ := i_cpf (u := n) hI1 hs hFi hq0 hq1 (fun h => by
              subst h
              rw [ke1, hfcr, kd1, ke3]
              have : al y n 0 = xl y n + kl y n := rfl
              omega) (fun h => by
              subst h
              rw [ke2, hfcr, kd2, ke4]
              have : al y n 1 = xh y n + kh y n := rfl
              omega) (by omega)
          refine cont y1 i1 i2 (Or.inl rfl) ?_ (by omega) (by rw [if_pos h3]; omega) kf2
          rw [fc_app, if_pos h2, hfcr]
          omega
        · have hbx : ¬ lev s x ≤ ab := fun h => by
            rw [b4 h] at h2
            obtain ⟨t1, t2⟩ := (hI.2 x hx.1).1
            have hlt : lev s x < _ := Nat.lt_of_le_of_lt h hS.2.1.1
            have har := (hx.2.2.2 hlt).1
            rw [(hE1.2.1 x hx.1).1, (hE1.2.2.2.1 x hx.1).2.2.2.1] at h2
            rcases t2 with hh | hh | hh | hh
            · exact h2 (Or.inr (Or.inl hh.1))
            · have := hh.2.2.2.2.1
              omega
            · exact h2 (Or.inr (Or.inr (hh.2.2.2.2.1 har)))
            · exact h2 (Or.inl hh.1)
          have hnv : srt s x ≠ 3 := fun h => h2 (Or.inl ((b5 (by omega)).2.1 h))
          obtain ⟨-, -, -, hsl⟩ := (b5 (by omega)).2.2 hnv
          have hg1 := hI.1.1.2.2.2
          obtain ⟨i1, i2⟩ := i_cpn (u := n) hI1 hs hFi hq0 hq1 h2 (by omega)
          have hvc : vb (ycn y1) = vb y1 + 1 := by
            show sO y1 + (sN y1 + 1) + (sU y1 + sD y1) + sL y1 + (frl y1).sum = sO y1 + sN y1 + (sU y1 + sD y1) + sL y1 + (frl y1).sum + 1
            omega
          refine cont (ycn y1) i1 i2 (Or.inr rfl) ?_ (by omega) (by omega) (by show nT s + (sN y1 + 1) + nV (f s x).1 ≤ _; omega)
          rw [fc_app, if_neg h2, hfcr]
          omega
      · rw [if_neg h1]
        obtain ⟨p1, p2, p3, -, -, -⟩ := hE1.2.1 n hn
        obtain ⟨r1, -⟩ := hE1.2.2.2.1 n hn
        have hKm := hK1.mono (show N ≤ nT s by omega) (Nat.zero_le (if srt s x = 3 ∨ srt s x = 0 ∨ rm y x = 1 then 1 else 0))
        obtain ⟨hst, y3, hI3, hE4, hK3, hM3, hr3, ha30, ha31⟩ := cpR_ok hf hs han hNn l (f s x).1 y1 hI1 hM1 (hS.kp hK1) (by have := hE1.1.1; omega) (p1.trans hn3) (p2.trans hnl) (r1.trans hnz)
          (fun p hp => by
            obtain ⟨i1, i2, i3⟩ := hl p (by simp [hp])
            obtain ⟨-, -, -, d4, d5, d6, d7⟩ := hE1.2.2.2.1 p i1.1
            rw [d4, d5, d6]
            exact ⟨i1.ext hgl hE1, fun h => ⟨(i2 h).1, fun hr => d7 ((i2 h).2 hr)⟩, i3⟩)
          (by rw [hrows side hs, hfcr, hfcl, hal]; omega) (by rw [hfcl]; omega)
        rw [hfcl] at hK3
        refine ⟨fun h => absurd h h0, y3, hI3, hE1.tr hE4, ?_, hM3, ?_, by rw [ha30, hal], by rw [ha31, hal]⟩
        · have := hKm.tr hK3 hE1 (by omega)
          rw [Nat.add_comm (fc s y l)]
          exact this
        · rw [hr3]
          exact hrows (1 - side) (by omega)
