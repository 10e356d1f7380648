theorem Fi.keep {s : aS} {y : aG} {c t e g ab lv z : Nat} {an : Prop} (h : Fi s y t e g) (hS : Src y c g e ab lv z an) (hl : lev s t ≤ ab) : Fi s y t lv z := by
  obtain ⟨h1, h2, h3, h4⟩ := h
  obtain ⟨-, ⟨s1, s2, -⟩, s4, -⟩ := hS
  refine ⟨h1, by omega, ?_, fun _ => h4 (by omega)⟩
  rw [s4 _ hl]
  exact h3
theorem kp_nw {s s' : aS} {y y' : aG} {ab : Nat} {an : Prop} (h : Nw s s' y y') : Kp (nT s) 0 s y s' y' ab an := by
  obtain ⟨n1, n2, n3, n4, n5, n6, n7, n8, n9, n10, n11, n12, n13⟩ := h
  have q : ∀ f, 6 ≤ f → ∀ x, y'.1 f x = y.1 f x := fun f hf x => by rw [n2 f hf]
  have hv : vb y' = vb y := by
    unfold vb sO sN sU sD sL frl
    rw [n2 20 (by omega), n3]
  refine ⟨⟨q 20 (by omega) 12, q 20 (by omega) 4, q 20 (by omega) 8, q 20 (by omega) 5, q 20 (by omega) 6, q 20 (by omega) 7, q 20 (by omega) 0, q 20 (by omega) 11⟩, ⟨by unfold itl; rw [n3], by unfold apl; rw [n3], fun x => q 6 (by omega) x, fun x => q 15 (by omega) x, fun x => by unfold pth; rw [n3]⟩, ⟨n8, n5, n11, n12, n13⟩, fun t ht => ⟨q 11 (by omega) t, q 12 (by omega) t, q 16 (by omega) t, q 7 (by omega) t, q 8 (by omega) t, q 9 (by omega) t, q 10 (by omega) t, by unfold ol; rw [n3], by unfold oh; rw [n3]⟩, fun t ht _ => ⟨by rw [n9 0 (by omega)], by rw [n9 1 (by omega)], q 13 (by omega) t, q 14 (by omega) t⟩, ⟨by omega, ?_⟩⟩
  have : sN y' = sN y := q 20 (by omega) 9
  omega
theorem i_memo {s : aS} {y : aG} {c i v : Nat} (hI : Inv s y c) : Inv (w1 s 7 i v) y c ∧ Ex s y (w1 s 7 i v) y := by
  have hE : Ex s y (w1 s 7 i v) y := ⟨⟨Nat.le_refl _, Nat.le_refl _, Nat.le_refl _, fun _ h => h, fun _ h => Or.inl h⟩, fun _ _ => ⟨rfl, rfl, rfl, rfl, rfl, rfl⟩, fun _ _ => rfl, fun _ _ => ⟨rfl, rfl, rfl, rfl, rfl, rfl, id⟩, fun _ _ => rfl, fun _ h => h⟩
  obtain ⟨hG, hT⟩ := hI
  refine ⟨⟨hG, fun t ht => ?_⟩, hE⟩
  obtain ⟨k1, k2⟩ := hT t ht
  exact ⟨k1.ext ht hE hG.2.2.1.2.2.1 (fun _ x hx => Or.inl hx) (fun _ x hx => Or.inl hx), fun h3 => Vok.ext (k2 h3) k1 ht h3 hE ⟨rfl, rfl⟩ ⟨rfl, rfl, rfl, rfl, rfl, rfl, rfl, rfl, rfl, rfl, rfl⟩ (Nat.le_refl _) (Nat.le_refl _) (Nat.le_refl _) (fun _ h => h) ⟨Nat.le_refl _, Nat.le_refl _⟩ ⟨rfl, fun _ => rfl, rfl⟩⟩
/-- a variable's copy, ahead of its rows -/
theorem cp_base {s : aS} {y : aG} {c t e g ab lv z way key : Nat} (hw : way ≤ 2) (hI : Inv s y c) (hM : Mm s y lv z) (hS : Src y c g e ab lv z (way = 2)) (ht : Fi s y t e g) (h3 : srt s t = 3) (hl : ab < lev s t) (hN : nT s ≠ 602) (hV : nV s ≠ 150) :
    ∃ y3, Inv (link (w1 (newV s lv) 7 key (nT s + 1)) t way (nT s)) y3 c ∧ Ex s y (link (w1 (newV s lv) 7 key (nT s + 1)) t way (nT s)) y3 ∧ Mm (link (w1 (newV s lv) 7 key (nT s + 1)) t way (nT s)) y3 lv z ∧ Kp (nT s) 0 s y (link (w1 (newV s lv) 7 key (nT s + 1)) t way (nT s)) y3 ab (way = 2) ∧
      (Fi (link (w1 (newV s lv) 7 key (nT s + 1)) t way (nT s)) y3 (nT s) lv z ∧ srt (link (w1 (newV s lv) 7 key (nT s + 1)) t way (nT s)) (nT s) = 3 ∧ lev (link (w1 (newV s lv) 7 key (nT s + 1)) t way (nT s)) (nT s) = lv ∧ zn y3 (nT s) = z ∧ ps y3 (nT s) = 1 ∧ ng y3 (nT s) = 1) ∧
      (row (link (w1 (newV s lv) 7 key (nT s + 1)) t way (nT s)) 0 (nT s) = [] ∧ row (link (w1 (newV s lv) 7 key (nT s + 1)) t way (nT s)) 1 (nT s) = []) ∧
      ((way ≠ 1 → row (link (w1 (newV s lv) 7 key (nT s + 1)) t way (nT s)) 0 t = row s 0 t ∧ al y3 (nT s) 0 = xl y t + kl y t) ∧ (way ≠ 0 → row (link (w1 (newV s lv) 7 key (nT s + 1)) t way (nT s)) 1 t = row s 1 t ∧ al y3 (nT s) 1 = xh y t + kh y t)) ∧
      bnd (link (w1 (newV s lv) 7 key (nT s + 1)) t way (nT s)) + vb y + ((if way = 1 then 0 else xl y t + kl y t) + (if way = 0 then 0 else xh y t + kh y t)) ≤ bnd s + vb y3 := by
  have hG := hI.1
  have htl := ht.1
  obtain ⟨kT, kV⟩ := hI.2 t htl
  have hVt := kV h3
  have hnv : nv y t ≠ 0 := by
    obtain ⟨-, hh | hh | hh | hh⟩ := kT
    · omega
    · omega
    · omega
    · have := hh.2.2.2.1.1
      omega
  have hcx : Cx y g (lev s t) (zn y t) := ht.cx hS.1.1 hS.1.2.2 hnv
  have hroom := hS.room hG hVt hcx hl
  obtain ⟨i1, i2, i3⟩ := i_copy (way := way) hI hS.2.1.2.2 hw htl h3 hroom hN hV
  obtain ⟨m1, m2⟩ := i_memo (i := key) (v := nT s + 1) i1
  have hne : t ≠ nT s := by omega
  obtain ⟨p1, p2, p3, -, -, p6, p7, -, -⟩ := newV_at s lv (nT s)
  rw [if_pos rfl] at p1 p2 p3 p6 p7
  obtain ⟨-, -, -, -, -, t6, t7, -, -⟩ := newV_at s lv t
  rw [if_neg hne] at t6 t7
  obtain ⟨v1, v2, v3, v4, v5, v6, v7, v8, v9, v10, v11⟩ := yV_at y (nT s) z (kk y t) 0 (ln y t + 1) (nf y t) (if way = 1 then 0 else xl y t) (if way = 0 then 0 else xh y t) (if way = 1 then 0 else kl y t) (if way = 0 then 0 else kh y t) ((if way = 1 then 0 else xl y t) + (if way = 0 then 0 else xh y t)) (nT s)
  rw [if_pos rfl] at v1 v2 v3 v4 v5 v6 v7 v8 v9 v10 v11
  obtain ⟨w1', w2', w3', w4', w5', w6'⟩ := yV_at2 y (nT s) z (kk y t) 0 (ln y t + 1) (nf y t) (if way = 1 then 0 else xl y t) (if way = 0 then 0 else xh y t) (if way = 1 then 0 else kl y t) (if way = 0 then 0 else kh y t) ((if way = 1 then 0 else xl y t) + (if way = 0 then 0 else xh y t)) (nT s)
  rw [if_pos rfl] at w1' w2' w3' w4' w5' w6'
  have e_c : ∀ f, f ≤ 16 → (yC s y t z way).1 f = (yV y (nT s) z (kk y t) 0 (ln y t + 1) (nf y t) (if way = 1 then 0 else xl y t) (if way = 0 then 0 else xh y t) (if way = 1 then 0 else kl y t) (if way = 0 then 0 else kh y t) ((if way = 1 then 0 else xl y t) + (if way = 0 then 0 else xh y t))).1 f := fun f hf => by
    funext j
    simp [yC, h1, h2, mst, show f ≠ 20 by omega]
  have a5 : xl (yC s y t z way) (nT s) = _ := (congrFun (e_c 11 (by omega)) (nT s)).trans v5
  have a6 : xh (yC s y t z way) (nT s) = _ := (congrFun (e_c 12 (by omega)) (nT s)).trans v6
  have a7 : kl (yC s y t z way) (nT s) = _ := (congrFun (e_c 13 (by omega)) (nT s)).trans v7
  have a8 : kh (yC s y t z way) (nT s) = _ := (congrFun (e_c 14 (by omega)) (nT s)).trans v8
  have z1 : zn (yC s y t z way) (nT s) = z := (congrFun (e_c 0 (by omega)) (nT s)).trans w1'
  have z4 : rm (yC s y t z way) (nT s) = 0 := (congrFun (e_c 3 (by omega)) (nT s)).trans w4'
  have z5 : ps (yC s y t z way) (nT s) = 1 := (congrFun (e_c 4 (by omega)) (nT s)).trans w5'
  have z6 : ng (yC s y t z way) (nT s) = 1 := (congrFun (e_c 5 (by omega)) (nT s)).trans w6'
  have hold : ∀ x, x < nT s → xl (yC s y t z way) x = xl y x ∧ xh (yC s y t z way) x = xh y x ∧ fq (yC s y t z way) x = fq y x ∧ kk (yC s y t z way) x = kk y x ∧ nt (yC s y t z way) x = nt y x ∧ ln (yC s y t z way) x = ln y x ∧ nf (yC s y t z way) x = nf y x ∧ ol (yC s y t z way) x = ol y x ∧ oh (yC s y t z way) x = oh y x ∧ kl (yC s y t z way) x = kl y x ∧ kh (yC s y t z way) x = kh y x := fun x hx => by
    obtain ⟨v1, v2, v3, v4, v5, v6, v7, v8, v9, v10, v11⟩ := yV_at y (nT s) z (kk y t) 0 (ln y t + 1) (nf y t) (if way = 1 then 0 else xl y t) (if way = 0 then 0 else xh y t) (if way = 1 then 0 else kl y t) (if way = 0 then 0 else kh y t) ((if way = 1 then 0 else xl y t) + (if way = 0 then 0 else xh y t)) x
    have hx2 : x ≠ nT s := by omega
    rw [if_neg hx2] at v1 v2 v3 v4 v5 v6 v7 v8 v9 v10 v11
    refine ⟨(congrFun (e_c 11 (by omega)) x).trans v5, (congrFun (e_c 12 (by omega)) x).trans v6, (congrFun (e_c 16 (by omega)) x).trans v9, (congrFun (e_c 7 (by omega)) x).trans v1, (congrFun (e_c 8 (by omega)) x).trans v2, (congrFun (e_c 9 (by omega)) x).trans v3, (congrFun (e_c 10 (by omega)) x).trans v4, ?_, ?_, (congrFun (e_c 13 (by omega)) x).trans v7, (congrFun (e_c 14 (by omega)) x).trans v8⟩
    · refine Eq.trans ?_ v10
      simp [ol, yC, h1, h2, lst]
    · refine Eq.trans ?_ v11
      simp [oh, yC, h1, h2, lst]
  have e_20 : ∀ i, i ≠ 1 → i ≠ 2 → i ≠ 3 → i ≠ 10 → (yC s y t z way).1 20 i = y.1 20 i := fun i h1' h2' h3' h4' => by simp [yC, yV, ynew, h1, h2, mst, h1', h2', h3', h4']
  have e_U : sU (yC s y t z way) = sU y + (if way = 0 then 1 else 0) := by simp [sU, yC, yV, ynew, h1, h2, mst]
  have e_D : sD (yC s y t z way) = sD y + (if way = 1 then 1 else 0) := by simp [sD, yC, yV, ynew, h1, h2, mst]
  have e_L : sL (yC s y t z way) = sL y + ((if way = 1 then 0 else kl y t) + (if way = 0 then 0 else kh y t)) := by simp [sL, yC, yV, ynew, h1, h2, mst]
  have e_f : frl (yC s y t z way) = ((if way = 1 then 0 else xl y t) + (if way = 0 then 0 else xh y t)) :: frl y := by simp [frl, yC, yV, ynew, h1, h2, lst]
  have hvb : vb (yC s y t z way) = vb y + ((if way = 0 then 1 else 0) + (if way = 1 then 1 else 0)) + ((if way = 1 then 0 else xl y t + kl y t) + (if way = 0 then 0 else xh y t + kh y t)) := by
    have eO : sO (yC s y t z way) = sO y := e_20 8 (by omega) (by omega) (by omega) (by omega)
    have eN : sN (yC s y t z way) = sN y := e_20 9 (by omega) (by omega) (by omega) (by omega)
    unfold vb
    rw [e_f, e_L, e_U, e_D, eO, eN, List.sum_cons]
    rcases (by omega : way = 0 ∨ way = 1 ∨ way = 2) with h | h | h <;> subst h <;> simp <;> omega
  have hzl : z < sZ y := zlt hG hS.2.1.2.2
  have hzl' : z < sZ (yC s y t z way) := by
    have : sZ (yC s y t z way) = sZ y := e_20 11 (by omega) (by omega) (by omega) (by omega)
    omega
  have hKp0 : Kp (nT s) 0 s y (w1 (newV s lv) 7 key (nT s + 1)) (yC s y t z way) ab (way = 2) := by
    refine ⟨⟨e_20 12 (by omega) (by omega) (by omega) (by omega), e_20 4 (by omega) (by omega) (by omega) (by omega), e_20 8 (by omega) (by omega) (by omega) (by omega), e_20 5 (by omega) (by omega) (by omega) (by omega), e_20 6 (by omega) (by omega) (by omega) (by omega), e_20 7 (by omega) (by omega) (by omega) (by omega), e_20 0 (by omega) (by omega) (by omega) (by omega), e_20 11 (by omega) (by omega) (by omega) (by omega)⟩, ⟨by simp [itl, yC, yV, ynew, h1, h2, lst], by simp [apl, yC, yV, ynew, h1, h2, lst], fun x => by simp [it, yC, yV, ynew, h1, h2, mst], fun x => by simp [ih, yC, yV, ynew, h1, h2, mst], fun x => by simp [pth, yC, yV, ynew, h1, h2, lst]⟩, ⟨rfl, rfl, rfl, rfl, rfl⟩, fun x hx => ?_, fun x hx _ => ?_, ⟨?_, ?_⟩⟩
    · obtain ⟨b1, b2, b3, b4, b5, b6, b7, b8, b9, -, -⟩ := hold x hx
      exact ⟨b1, b2, b3, b4, b5, b6, b7, b8, b9⟩
    · obtain ⟨-, -, -, -, -, -, -, -, -, b10, b11⟩ := hold x hx
      obtain ⟨-, -, -, -, -, x6, x7, -, -⟩ := newV_at s lv x
      rw [if_neg (by omega)] at x6 x7
      exact ⟨x6, x7, b10, b11⟩
    · show bnd s + vb y ≤ bnd s + vb (yC s y t z way) + 0
      omega
    · show nT s + sN (yC s y t z way) + (nV s + 1) ≤ nT s + 1 + sN y + nV s
      have : sN (yC s y t z way) = sN y := e_20 9 (by omega) (by omega) (by omega) (by omega)
      omega
  have hMm0 : Mm (w1 (newV s lv) 7 key (nT s + 1)) (yC s y t z way) lv z := fun i hi => by
    have hmi : memo (w1 (newV s lv) 7 key (nT s + 1)) i = if i = key then nT s + 1 else memo s i := by
      simp [memo, newV, newT, w1, w2, mst]
    rw [hmi] at hi ⊢
    by_cases h : i = key
    · rw [if_pos h]
      have hq : nT s + 1 - 1 = nT s := by omega
      rw [hq]
      exact ⟨Nat.lt_succ_self _, p1, p2, i3⟩
    · rw [if_neg h] at hi ⊢
      obtain ⟨b1, b2, b3, b4⟩ := hM i hi
      obtain ⟨c1, c2, -⟩ := (i2.tr m2).2.1 _ b1
      exact ⟨by show _ < nT s + 1; omega, c1.trans b2, c2.trans b3, b4.ext hzl (i2.tr m2)⟩
  have hFlink : ¬ way = 2 → Fi (w1 (newV s lv) 7 key (nT s + 1)) (yC s y t z way) (nT s) (lev (w1 (newV s lv) 7 key (nT s + 1)) t) (zn (yC s y t z way) t) := fun hw2 => by
    obtain ⟨q1, q2⟩ := hS.2.2.2.2.2 hw2
    have ho := (i2.tr m2).2.1 t htl
    have hz' := (i2.tr m2).2.2.2.1 t htl
    have hop := hS.2.2.2.1.2 hw2 _ _ hl hcx
    rw [ho.2.1, hz'.1]
    refine ⟨Nat.lt_succ_self _, ?_, Or.inr ?_, fun _ => ⟨?_, Or.inr ?_⟩⟩
    · show lev (newV s lv) (nT s) ≤ lev s t
      rw [p2]
      omega
    · show (pth (yC s y t z way) (zn y t))[lev (newV s lv) (nT s)]? = some (zn (yC s y t z way) (nT s))
      have hpp : pth (yC s y t z way) (zn y t) = pth y (zn y t) := by simp [pth, yC, yV, ynew, h1, h2, lst]
      rw [p2, z1, hpp, hop.at hG.2.2.1.1 (by omega)]
      exact hS.2.1.2.2
    · exact (congrFun (e_c 2 (by omega)) (nT s)).trans w3'
    · rw [z1]
      have : ih (yC s y t z way) z = ih y z := by simp [ih, yC, yV, ynew, h1, h2, mst]
      rw [this]
      exact q2
  rcases (by omega : way = 0 ∨ way = 1 ∨ way = 2) with h | h | h
  · subst h
    have hkh : kh (yC s y t z 0) t + 1 ≤ sU (yC s y t z 0) := by
      rw [(hold t htl).2.2.2.2.2.2.2.2.2.2, e_U]
      have := hVt.2.2.2.2.2.2.2.1.2
      simp
      omega
    have hb1 : bnd (w1 (newV s lv) 7 key (nT s + 1)) + 1 ≤ vb (yC s y t z 0) := by
      rw [hvb]
      have := glo_at hG
      show bnd s + 1 ≤ _
      simp
      omega
    obtain ⟨l1, l2⟩ := i_lku (u := t) (a := nT s) m1 (hFlink (by omega)) z6 hkh hb1
    have hE := (i2.tr m2).tr l2
    refine ⟨ylku (yC s y t z 0) t, l1, hE, Mm.ext hMm0 hzl' l2 rfl, ?_, ⟨Fi.ext i3 hzl' (m2.tr l2), p1, p2, z1, z5, z6⟩, ⟨?_, ?_⟩, ⟨fun _ => ⟨?_, ?_⟩, fun h => absurd rfl h⟩, ?_⟩
    · obtain ⟨k1, k2, k3, k4, k5, k6, k7⟩ := hKp0
      refine ⟨k1, k2, k3, k4, fun x hx hax => ?_, ⟨?_, k7⟩⟩
      · have hxt : x ≠ t := fun e => by
          rw [e] at hax
          omega
        obtain ⟨b1, b2, b3, b4⟩ := k5 x hx hax
        refine ⟨?_, ?_, b3, ?_⟩
        · show row (bind (w1 (newV s lv) 7 key (nT s + 1)) t 1 (nT s)) 0 x = _
          rw [row_bind, if_neg (by omega)]
          exact b1
        · show row (bind (w1 (newV s lv) 7 key (nT s + 1)) t 1 (nT s)) 1 x = _
          rw [row_bind, if_pos rfl, if_neg hxt]
          exact b2
        · refine Eq.trans ?_ b4
          simp [kh, ylku, h1, mst, hxt]
      · show bnd s + 1 + vb y ≤ bnd s + vb (yC s y t z 0) + 0
        rw [hvb]
        simp
        omega
    · show row (bind (w1 (newV s lv) 7 key (nT s + 1)) t 1 (nT s)) 0 (nT s) = []
      rw [row_bind, if_neg (by omega)]
      exact p6
    · show row (bind (w1 (newV s lv) 7 key (nT s + 1)) t 1 (nT s)) 1 (nT s) = []
      rw [row_bind, if_pos rfl, if_neg (Ne.symm hne)]
      exact p7
    · show row (bind (w1 (newV s lv) 7 key (nT s + 1)) t 1 (nT s)) 0 t = row s 0 t
      rw [row_bind, if_neg (by omega)]
      exact t6
    · show xl (yC s y t z 0) (nT s) + kl (yC s y t z 0) (nT s) = _
      rw [a5, a7]
      simp
    · show bnd s + 1 + vb y + _ ≤ bnd s + vb (yC s y t z 0)
      rw [hvb]
      simp
      omega
  · subst h
    have hkl : kl (yC s y t z 1) t + 1 ≤ sD (yC s y t z 1) := by
      rw [(hold t htl).2.2.2.2.2.2.2.2.2.1, e_D]
      have := hVt.2.2.2.2.2.2.2.1.1
      simp
      omega
    have hb1 : bnd (w1 (newV s lv) 7 key (nT s + 1)) + 1 ≤ vb (yC s y t z 1) := by
      rw [hvb]
      have := glo_at hG
      show bnd s + 1 ≤ _
      simp
      omega
    obtain ⟨l1, l2⟩ := i_lkd (u := t) (a := nT s) m1 (hFlink (by omega)) ⟨z5, fun h => by omega⟩ hkl hb1
    have hE := (i2.tr m2).tr l2
    refine ⟨ylkd (yC s y t z 1) t, l1, hE, Mm.ext hMm0 hzl' l2 rfl, ?_, ⟨Fi.ext i3 hzl' (m2.tr l2), p1, p2, z1, z5, z6⟩, ⟨?_, ?_⟩, ⟨fun h => absurd rfl h, fun _ => ⟨?_, ?_⟩⟩, ?_⟩
    · obtain ⟨k1, k2, k3, k4, k5, k6, k7⟩ := hKp0
      refine ⟨k1, k2, k3, k4, fun x hx hax => ?_, ⟨?_, k7⟩⟩
      · have hxt : x ≠ t := fun e => by
          rw [e] at hax
          omega
        obtain ⟨b1, b2, b3, b4⟩ := k5 x hx hax
        refine ⟨?_, ?_, ?_, b4⟩
        · show row (bind (w1 (newV s lv) 7 key (nT s + 1)) t 0 (nT s)) 0 x = _
          rw [row_bind, if_pos rfl, if_neg hxt]
          exact b1
        · show row (bind (w1 (newV s lv) 7 key (nT s + 1)) t 0 (nT s)) 1 x = _
          rw [row_bind, if_neg (by omega)]
          exact b2
        · refine Eq.trans ?_ b3
          simp [kl, ylkd, h1, mst, hxt]
      · show bnd s + 1 + vb y ≤ bnd s + vb (yC s y t z 1) + 0
        rw [hvb]
        simp
        omega
    · show row (bind (w1 (newV s lv) 7 key (nT s + 1)) t 0 (nT s)) 0 (nT s) = []
      rw [row_bind, if_pos rfl, if_neg (Ne.symm hne)]
      exact p6
    · show row (bind (w1 (newV s lv) 7 key (nT s + 1)) t 0 (nT s)) 1 (nT s) = []
      rw [row_bind, if_neg (by omega)]
      exact p7
    · show row (bind (w1 (newV s lv) 7 key (nT s + 1)) t 0 (nT s)) 1 t = row s 1 t
      rw [row_bind, if_neg (by omega)]
      exact t7
    · show xh (yC s y t z 1) (nT s) + kh (yC s y t z 1) (nT s) = _
      rw [a6, a8]
      simp
    · show bnd s + 1 + vb y + _ ≤ bnd s + vb (yC s y t z 1)
      rw [hvb]
      simp
      omega
  · subst h
    refine ⟨yC s y t z 2, m1, i2.tr m2, hMm0, hKp0, ⟨Fi.ext i3 hzl' m2, p1, p2, z1, z5, z6⟩, ⟨p6, p7⟩, ⟨fun _ => ⟨t6, ?_⟩, fun _ => ⟨t7, ?_⟩⟩, ?_⟩
    · show xl (yC s y t z 2) (nT s) + kl (yC s y t z 2) (nT s) = _
      rw [a5, a7]
      simp
    · show xh (yC s y t z 2) (nT s) + kh (yC s y t z 2) (nT s) = _
      rw [a6, a8]
      simp
    · show bnd s + vb y + _ ≤ bnd s + vb (yC s y t z 2)
      rw [hvb]
      simp
      omega
