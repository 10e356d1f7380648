theorem cpV_ok {f : aS → Nat → aS × Nat} {s a b d : aS} {y : aG} {c t e g ab lv z way : Nat} (hf : CpF f c ab lv z (way = 2)) (hw : way ≤ 2) (hI : Inv s y c) (hM : Mm s y lv z) (hS : Src y c g e ab lv z (way = 2)) (ht : Fi s y t e g) (hab : ab < lev s t) (h3v : srt s t = 3) (hnv : nv y t ≠ 0) (tz : zn y t < sZ y) (hN : nT s ≠ 602) (hV : nV s ≠ 150)
    (ea : a = link (w1 (newV s lv) 7 (mkey s t way) (nT s + 1)) t way (nT s)) (eb : b = (if way = 1 then a else cpR f (nT s) 0 a (row a 0 t))) (ed : d = (if way = 0 then b else cpR f (nT s) 1 b (row b 1 t))) : CpG s y t c ab lv z (way = 2) (d, nT s) := by
  unfold CpG
  have h1 : ¬ lev s t ≤ ab := by omega
  have hzl : z < sZ y := hS.zlt hI.1
  have hrows := (hI.2 t ht.1).1.rows h3v
  have hVt := (hI.2 t ht.1).2 h3v
  obtain ⟨y3, hI3, hE3, hM3, hK3, ⟨n1, n2, n3, n4, n5, n6⟩, ⟨n7, n8⟩, ⟨n9, n10⟩, n11⟩ := cp_base (key := mkey s t way) hw hI hM hS ht h3v hab hN hV
  rw [← ea] at hI3 hE3 hM3 hK3 n1 n2 n3 n7 n8 n9 n10 n11
  have hcx : Cx y g (lev s t) (zn y t) := ht.cx hS.1.1 hS.1.2.2 hnv
  have hSt : Src y c (zn y t) (lev s t) ab lv z (way = 2) := hS.sub hcx hab tz
  have hSt3 := hSt.kp hK3
  have hlvn : way = 2 ∨ lv ≤ ab := by
    by_cases h : way = 2
    · exact Or.inl h
    · right
      have := (hS.2.2.2.2.2 h).1
      omega
  have hfcx : ∀ (s' : aS) (y' : aG) (m : List Nat), Ex s y s' y' → (∀ x ∈ m, x < nT s) → fc s' y' m = fc s y m := fun s' y' m hE hm => fc.ext (fun x hx => ⟨(hE.2.1 x (hm x hx)).1, (hE.2.2.2.1 x (hm x hx)).2.2.2.1⟩)
  have htg : ∀ (s' : aS) (y' : aG), Ex s y s' y' → ∀ x, x < nT s → ∀ (b : Nat), (b = 0 → ps y x = 1 ∧ (rm y x = 1 → it y x = 1)) → (b = 1 → ng y x = 1) → (b = 0 → ps y' x = 1 ∧ (rm y' x = 1 → it y' x = 1)) ∧ (b = 1 → ng y' x = 1) := fun s' y' hE x hx b hb0 hb1 => by
    obtain ⟨-, -, -, q4, q5, q6, q7⟩ := hE.2.2.2.1 x hx
    rw [q4, q5, q6]
    exact ⟨fun h => ⟨(hb0 h).1, fun hr => q7 ((hb0 h).2 hr)⟩, hb1⟩
  have hA := hVt.1
  -- the rows below
  have step1 : ∃ y4, Inv b y4 c ∧ Ex a y3 b y4 ∧ Kp (nT s) (if way = 1 then 0 else xl y t + kl y t) a y3 b y4 ab (way = 2) ∧ Mm b y4 lv z ∧ row b 1 (nT s) = [] ∧ (way ≠ 0 → al y4 (nT s) 1 = xh y t + kh y t ∧ row b 1 t = row s 1 t) := by
    by_cases hw1 : way = 1
    · rw [if_pos hw1] at eb
      rw [eb, if_pos hw1]
      exact ⟨y3, hI3, Ex.rf, Kp.rf, hM3, n8, fun h => ⟨(n10 h).2, (n10 h).1⟩⟩
    · rw [if_neg hw1] at eb
      rw [(n9 hw1).1] at eb
      have hm : ∀ x ∈ row s 0 t, x < nT s := fun x hx => (hrows.1 x hx).1.1
      have hfl : fc a y3 (row s 0 t) = fc s y (row s 0 t) := hfcx a y3 _ hE3 hm
      have hf0 : fc a y3 (row a 0 (nT s)) = 0 := by
        rw [n7]
        rfl
      obtain ⟨-, y4, hI4, hE4, hK4, hM4, hr4, -, ha4⟩ := cpR_ok (e := lev s t) (g := zn y t) (side := 0) (N := nT s) hf (by omega) hlvn (Nat.le_refl _) (row s 0 t) a y3 hI3 hM3 hSt3 n1.1 n2 n3 n4 (fun x hx => by
        obtain ⟨x1, x2, x3⟩ := hrows.1 x hx
        exact ⟨x1.ext tz hE3, htg a y3 hE3 x x1.1 0 (fun _ => ⟨x2, x3⟩) (fun h => by omega)⟩) (by rw [hf0, hfl, (n9 hw1).2]; omega) (by rw [hfl]; rw [if_neg hw1] at n11; have := glo_at hI.1; omega)
      rw [← eb] at hI4 hE4 hK4 hM4 hr4
      rw [hfl] at hK4
      refine ⟨y4, hI4, hE4, ?_, hM4, hr4.trans n8, fun h => ⟨ha4.trans (n10 h).2, ?_⟩⟩
      · rw [if_neg hw1]
        exact hK4.mono (Nat.le_refl _) (by omega)
      · have hw2 : way = 2 := by omega
        have h7 := hK4.2.2.2.2.1 t ht.1 (Or.inl hw2)
        exact h7.2.1.trans (n10 h).1
  obtain ⟨y4, hI4, hE4, hK4, hM4, hrb, hab4⟩ := step1
  have hE34 := hE3.tr hE4
  have step2 : ∃ y5, Inv d y5 c ∧ Ex b y4 d y5 ∧ Kp (nT s) (if way = 0 then 0 else xh y t + kh y t) b y4 d y5 ab (way = 2) ∧ Mm d y5 lv z := by
    by_cases hw0 : way = 0
    · rw [if_pos hw0] at ed
      rw [ed, if_pos hw0]
      exact ⟨y4, hI4, Ex.rf, Kp.rf, hM4⟩
    · rw [if_neg hw0] at ed
      rw [(hab4 hw0).2] at ed
      have hm : ∀ x ∈ row s 1 t, x < nT s := fun x hx => (hrows.2 x hx).1.1
      have hfl : fc b y4 (row s 1 t) = fc s y (row s 1 t) := hfcx b y4 _ hE34 hm
      have hf0 : fc b y4 (row b 1 (nT s)) = 0 := by
        rw [hrb]
        rfl
      obtain ⟨p1, p2, p3, -, -, -⟩ := hE4.2.1 _ n1.1
      obtain ⟨p4, -⟩ := hE4.2.2.2.1 _ n1.1
      have hb4 := hK4.2.2.2.2.2.1
      obtain ⟨-, y5, hI5, hE5, hK5, hM5, -, -, -⟩ := cpR_ok (e := lev s t) (g := zn y t) (side := 1) (N := nT s) hf (by omega) hlvn (Nat.le_refl _) (row s 1 t) b y4 hI4 hM4 (hSt3.kp hK4) (by have := n1.1; have := hE4.1.1; omega) (p1.trans n2) (p2.trans n3) (p4.trans n4) (fun x hx => by
        obtain ⟨x1, x2⟩ := hrows.2 x hx
        exact ⟨x1.ext tz hE34, htg b y4 hE34 x x1.1 1 (fun h => by omega) (fun _ => x2)⟩) (by rw [hf0, hfl, (hab4 hw0).1]; omega) (by rw [hfl]; rw [if_neg hw0] at n11; have := glo_at hI.1; omega)
      rw [← ed] at hI5 hE5 hK5 hM5
      rw [hfl] at hK5
      refine ⟨y5, hI5, hE5, ?_, hM5⟩
      rw [if_neg hw0]
      exact hK5.mono (Nat.le_refl _) (by omega)
  obtain ⟨y5, hI5, hE5, hK5, hM5⟩ := step2
  have hE345 := hE34.tr hE5
  have hK345 := (hK3.tr hK4 hE3 (Nat.le_refl _)).tr hK5 hE34 (Nat.le_refl _)
  have hS5 := ((hS.kp hK3).kp hK4).kp hK5
  refine ⟨y5, hI5, hE345, ?_, hM5, fun _ => ?_⟩
  · obtain ⟨q1, q2, q3, q4, q5, q6, q7⟩ := hK345
    have h7 := hK4.2.2.2.2.2.1
    have h8 := hK5.2.2.2.2.2.1
    exact ⟨q1, q2, q3, q4, q5, ⟨by show bnd d + vb y ≤ bnd s + vb y5 + 0; omega, q7⟩⟩
  · have hE45 := hE4.tr hE5
    have hz3 : z < sZ y3 := (hS.kp hK3).zlt hI3.1
    obtain ⟨p1, p2, -⟩ := hE45.2.1 _ n1.1
    obtain ⟨m1, m2, m3⟩ := nw_of hI5 (t := nT s) (by have := n1.1; have := hE45.1.1; omega) (p1.trans n2)
    exact ⟨n1.ext hz3 hE45, fun _ => m1, fun _ => m2, fun h => absurd h h1, fun _ => ⟨p2.trans n3, fun _ => p1.trans n2, fun h => absurd h3v h⟩⟩
