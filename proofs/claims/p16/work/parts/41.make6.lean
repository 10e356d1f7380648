def yC (s : aS) (y : aG) (u z way : Nat) : aG :=
  h2 (h1 (h1 (h1 (h1 (yV y (nT s) z (kk y u) 0 (ln y u + 1) (nf y u) (if way = 1 then 0 else xl y u) (if way = 0 then 0 else xh y u) (if way = 1 then 0 else kl y u) (if way = 0 then 0 else kh y u) ((if way = 1 then 0 else xl y u) + (if way = 0 then 0 else xh y u)))
    20 1 (sK y + (if way = 2 then 1 else 0))) 20 2 (sU y + (if way = 0 then 1 else 0))) 20 3 (sD y + (if way = 1 then 1 else 0))) 20 10 (sL y + ((if way = 1 then 0 else kl y u) + (if way = 0 then 0 else kh y u))))
    3 0 (((if way = 1 then 0 else xl y u) + (if way = 0 then 0 else xh y u)) :: frl y)
theorem kud {K U D a L way : Nat} (hw : way ≤ 2) (h : L ≤ K * (U + D) + U * D) (ha : a ≤ (if way = 1 then 0 else D) + (if way = 0 then 0 else U)) : L + a ≤ (K + (if way = 2 then 1 else 0)) * ((U + (if way = 0 then 1 else 0)) + (D + (if way = 1 then 1 else 0))) + (U + (if way = 0 then 1 else 0)) * (D + (if way = 1 then 1 else 0)) := by
  rcases (by omega : way = 0 ∨ way = 1 ∨ way = 2) with e | e | e <;> subst e
  · simp only [Nat.zero_ne_one, if_false, if_true, reduceIte] at ha ⊢
    have e1 : K * (U + 1 + D) = K * (U + D) + K := by rw [show U + 1 + D = (U + D) + 1 by omega, Nat.mul_succ]
    have e2 : (U + 1) * D = U * D + D := by rw [Nat.succ_mul]
    simp at ha ⊢
    rw [e1, e2]
    omega
  · have e1 : K * (U + (D + 1)) = K * (U + D) + K := by rw [show U + (D + 1) = (U + D) + 1 by omega, Nat.mul_succ]
    have e2 : U * (D + 1) = U * D + U := by rw [Nat.mul_succ]
    simp at ha ⊢
    rw [e1, e2]
    omega
  · have e1 : (K + 1) * (U + D) = K * (U + D) + (U + D) := by rw [Nat.succ_mul]
    simp at ha ⊢
    rw [e1]
    omega
theorem i_copy {s : aS} {y : aG} {c e z u way : Nat} (hI : Inv s y c) (hz : Cx y c e z) (hw : way ≤ 2) (hu : u < nT s) (hu3 : srt s u = 3) (hk : kk y u + ci y ((pth y c).take e) + (if ih y z = 1 then 1 else 0) ≤ sF y) (hN : nT s ≠ 602) (hV : nV s ≠ 150) :
    Inv (newV s e) (yC s y u z way) c ∧ Ex s y (newV s e) (yC s y u z way) ∧ Fi (newV s e) (yC s y u z way) (nT s) e z := by
  have hG := hI.1
  have hgets := Vok.gets hI hu hu3
  obtain ⟨⟨va1, va2⟩, ⟨vb1, vb2⟩, vc1, ⟨vd1, vd2, vd3, vd4, vd5, vd6⟩, ve, vf, vg, ⟨vi1, vi2⟩, vj⟩ := (hI.2 u hu).2 hu3
  obtain ⟨a, ea⟩ : ∃ a, a = (if way = 1 then 0 else xl y u) := ⟨_, rfl⟩
  obtain ⟨b, eb⟩ : ∃ b, b = (if way = 0 then 0 else xh y u) := ⟨_, rfl⟩
  obtain ⟨d, ed⟩ : ∃ d, d = (if way = 1 then 0 else kl y u) := ⟨_, rfl⟩
  obtain ⟨f, ef⟩ : ∃ f, f = (if way = 0 then 0 else kh y u) := ⟨_, rfl⟩
  have ha : a ≤ xl y u := by rw [ea]; split <;> omega
  have hb : b ≤ xh y u := by rw [eb]; split <;> omega
  have hd : d ≤ sD y := by rw [ed]; split <;> omega
  have hf : f ≤ sU y := by rw [ef]; split <;> omega
  have hdf : d + f ≤ (if way = 1 then 0 else sD y) + (if way = 0 then 0 else sU y) := by
    rw [ed, ef]
    split <;> split <;> omega
  have hkud := kud (K := sK y) (a := d + f) hw hG.2.2.2.2.2.2.1.2 hdf
  obtain ⟨K1, eK⟩ : ∃ x, x = sK y + (if way = 2 then 1 else 0) := ⟨_, rfl⟩
  obtain ⟨U1, eU⟩ : ∃ x, x = sU y + (if way = 0 then 1 else 0) := ⟨_, rfl⟩
  obtain ⟨D1, eD⟩ : ∃ x, x = sD y + (if way = 1 then 1 else 0) := ⟨_, rfl⟩
  have hKUD : K1 + U1 + D1 = sK y + sU y + sD y + 1 := by
    rw [eK, eU, eD]
    rcases (by omega : way = 0 ∨ way = 1 ∨ way = 2) with e | e | e <;> subst e <;> simp <;> omega
  have hU1 : sU y ≤ U1 := by omega
  have hD1 : sD y ≤ D1 := by omega
  rw [← eK, ← eU, ← eD] at hkud
  have eY : yC s y u z way = h2 (h1 (h1 (h1 (h1 (yV y (nT s) z (kk y u) 0 (ln y u + 1) (nf y u) a b d f (a + b)) 20 1 K1) 20 2 U1) 20 3 D1) 20 10 (sL y + (d + f))) 3 0 ((a + b) :: frl y) := by
    rw [ea, eb, ed, ef, eK, eU, eD]
    rfl
  rw [eY]
  obtain ⟨Y, hY⟩ : ∃ Y, Y = h2 (h1 (h1 (h1 (h1 (yV y (nT s) z (kk y u) 0 (ln y u + 1) (nf y u) a b d f (a + b)) 20 1 K1) 20 2 U1) 20 3 D1) 20 10 (sL y + (d + f))) 3 0 ((a + b) :: frl y) := ⟨_, rfl⟩
  rw [← hY]
  have e_ih : ∀ z, ih Y z = ih y z := fun z => by rw [hY]; simp [ih, yV, ynew, h1, h2, mst]
  have e_p : ∀ z, pth Y z = pth y z := fun z => by rw [hY]; simp [pth, yV, ynew, h1, h2, lst]
  have e_20 : ∀ i, i ≠ 1 → i ≠ 2 → i ≠ 3 → i ≠ 10 → Y.1 20 i = y.1 20 i := fun i h1' h2' h3' h4' => by rw [hY]; simp [yV, ynew, h1, h2, mst, h1', h2', h3', h4']
  have e_1 : Y.1 20 1 = K1 := by rw [hY]; simp [yV, ynew, h1, h2, mst]
  have e_2 : Y.1 20 2 = U1 := by rw [hY]; simp [yV, ynew, h1, h2, mst]
  have e_3 : Y.1 20 3 = D1 := by rw [hY]; simp [yV, ynew, h1, h2, mst]
  have e_10 : Y.1 20 10 = sL y + (d + f) := by rw [hY]; simp [yV, ynew, h1, h2, mst]
  have e_6 : ∀ t, it Y t = it y t := fun t => by rw [hY]; simp [it, yV, ynew, h1, h2, mst]
  have e_l0 : Y.2 3 0 = (a + b) :: y.2 3 0 := by rw [hY]; simp [yV, ynew, h1, h2, lst]
  have e_l : ∀ i, i ≠ 0 → Y.2 3 i = y.2 3 i := fun i hi => by rw [hY]; simp [yV, ynew, h1, h2, lst, hi]
  have e_v : ∀ x, kk Y x = (if x = nT s then kk y u else kk y x) ∧ nt Y x = (if x = nT s then 0 else nt y x) ∧ ln Y x = (if x = nT s then ln y u + 1 else ln y x) ∧ nf Y x = (if x = nT s then nf y u else nf y x) ∧ xl Y x = (if x = nT s then a else xl y x) ∧ xh Y x = (if x = nT s then b else xh y x) ∧ kl Y x = (if x = nT s then d else kl y x) ∧ kh Y x = (if x = nT s then f else kh y x) ∧ fq Y x = (if x = nT s then a + b else fq y x) ∧ ol Y x = (if x = nT s then [] else ol y x) ∧ oh Y x = (if x = nT s then [] else oh y x) := fun x => by
    rw [hY]
    exact yV_at y (nT s) z (kk y u) 0 (ln y u + 1) (nf y u) a b d f (a + b) x
  have e_w : ∀ x, zn Y x = (if x = nT s then z else zn y x) ∧ nv Y x = (if x = nT s then 1 else nv y x) ∧ ar Y x = (if x = nT s then 1 else ar y x) ∧ rm Y x = (if x = nT s then 0 else rm y x) ∧ ps Y x = (if x = nT s then 1 else ps y x) ∧ ng Y x = (if x = nT s then 1 else ng y x) := fun x => by
    rw [hY]
    exact yV_at2 y (nT s) z (kk y u) 0 (ln y u + 1) (nf y u) a b d f (a + b) x
  have hcx : ∀ d z, Cx Y c d z ↔ Cx y c d z := fun d z => by
    unfold Cx
    rw [e_p]
  have hE : Ex s y (newV s e) Y := by
    refine ex_newV (c := c) hG (fun f hf x hx => ?_) (fun x h => by rw [e_6]; exact h) e_p (by show sZ y ≤ Y.1 20 11; rw [e_20 11 (by omega) (by omega) (by omega) (by omega)]; exact Nat.le_refl _) (fun z h => by rw [e_ih]; exact h) (fun x h => by show x ∈ Y.2 3 2; rw [e_l 2 (by omega)]; exact h)
    obtain ⟨w1, w2, w3, w4, w5, w6⟩ := e_w x
    have hne : x ≠ nT s := by omega
    rw [if_neg hne] at w1 w2 w3 w4 w5 w6
    rcases (by omega : f = 0 ∨ f = 1 ∨ f = 2 ∨ f = 3 ∨ f = 4 ∨ f = 5) with h | h | h | h | h | h <;> subst h
    · exact w1
    · exact w2
    · exact w3
    · exact w4
    · exact w5
    · exact w6
  obtain ⟨g1, g2, ⟨g3, g3a, g3b, g3c⟩, ⟨g4, g4b, g4c⟩, g5, ⟨g11, g12, g13⟩, ⟨g14, g14b⟩, g15, g16⟩ := hG
  have hkF : kk y u ≤ sF y := by omega
  have hPP : PP s y = (itl y).length + 2 + 2 * ((frl y).length + sF y) := by
    unfold PP
    omega
  have hG' : Glo (newV s e) Y c := by
    unfold Glo
    rw [ci.ext e_ih, e_p c]
    unfold sN sF sK sU sD sg sd sA sw sM sO sL sZ itl apl frl it at *
    rw [e_20 0 (by omega) (by omega) (by omega) (by omega), e_1, e_2, e_3, e_20 4 (by omega) (by omega) (by omega) (by omega), e_20 5 (by omega) (by omega) (by omega) (by omega), e_20 6 (by omega) (by omega) (by omega) (by omega), e_20 7 (by omega) (by omega) (by omega) (by omega), e_20 8 (by omega) (by omega) (by omega) (by omega), e_20 9 (by omega) (by omega) (by omega) (by omega), e_10, e_20 11 (by omega) (by omega) (by omega) (by omega), e_20 12 (by omega) (by omega) (by omega) (by omega), e_l0, e_l 1 (by omega), e_l 2 (by omega)]
    refine ⟨⟨by show 2 ≤ nT s + 1; omega, by show nT s + 1 ≤ 602; omega, by show nV s + 1 ≤ 150; omega, by show y.1 20 9 + (nV s + 1) + 2 ≤ nT s + 1; omega⟩, fun v hv => ?_, ⟨?_, g3a, fun z hz => by rw [e_p]; exact g3b z hz, fun z hz => ?_⟩, ⟨g4, ?_, ?_⟩, ⟨fun t ht => g5.1 t (by rw [← e_6 t]; exact ht), g5.2.1, g5.2.2.1, g5.2.2.2.1, g5.2.2.2.2⟩, ⟨g11, g12, g13⟩, ⟨?_, hkud⟩, fun e he => ?_, ?_, g16⟩
    · obtain ⟨-, -, -, -, p5, -⟩ := newV_at s e v
      rw [p5]
      have hv : v < nV s + 1 := hv
      by_cases h : v = nV s
      · rw [if_pos h]
        obtain ⟨p1, -, p3, -⟩ := newV_at s e (nT s)
        rw [if_pos rfl] at p1 p3
        exact ⟨Nat.lt_succ_self _, p1, by rw [p3, h]⟩
      · rw [if_neg h]
        obtain ⟨r1, r2, r3⟩ := g2 v (by omega)
        obtain ⟨p1, -, p3, -⟩ := newV_at s e (s.1 6 v)
        rw [if_neg (by omega)] at p1 p3
        exact ⟨by show s.1 6 v < nT s + 1; omega, p1.trans r2, p3.trans r3⟩
    · unfold Zok
      rw [e_p]
      exact ⟨g3.1, fun d z' hd => (e_p z').trans (g3.2 d z' hd)⟩
    · rw [e_ih]
      exact g3c z hz
    · show nV s + 1 = _
      rw [List.length_cons]
      omega
    · rw [List.length_cons]
      omega
    · show bnd s ≤ _
      rw [List.sum_cons]
      omega
    · rcases List.mem_cons.mp he with he | he
      · rw [he]
        omega
      · exact g15 e he
    · have h1 : kk y u ≤ min ((y.2 3 0).length + 1) (y.1 20 0) := by omega
      have h2 := Nat.mul_le_mul_right ((y.2 3 1).length + 2 + 2 * ((y.2 3 0).length + y.1 20 0)) h1
      rw [hPP] at hgets
      omega
  obtain ⟨w1, w2, w3, w4, w5, w6⟩ := e_w (nT s)
  rw [if_pos rfl] at w1 w2 w3 w4 w5 w6
  obtain ⟨hTy, hFi⟩ := typ_newV (z := z) hG' ((hcx e z).mpr hz) ⟨w1, w2, w3, w4, w5, w6⟩
  obtain ⟨v1, v2, v3, v4, v5, v6, v7, v8, v9, v10, v11⟩ := e_v (nT s)
  rw [if_pos rfl] at v1 v2 v3 v4 v5 v6 v7 v8 v9 v10 v11
  obtain ⟨p1, p2, p3, -, -, p6, p7, -, -⟩ := newV_at s e (nT s)
  rw [if_pos rfl] at p1 p2 p3 p6 p7
  have eF : sF Y = sF y := e_20 0 (by omega) (by omega) (by omega) (by omega)
  have ew : sw Y = sw y := e_20 4 (by omega) (by omega) (by omega) (by omega)
  have eM : sM Y = sM y := e_20 12 (by omega) (by omega) (by omega) (by omega)
  have efr : (frl Y).length = (frl y).length + 1 := by
    show (Y.2 3 0).length = _
    rw [e_l0, List.length_cons]
  have eit : itl Y = itl y := e_l 1 (by omega)
  refine ⟨i_newV hI hE hG' hTy ?_ (fun t ht => ?_) (by rw [ew, eM]; exact Nat.le_refl _) (by rw [eit]; exact Nat.le_refl _) (by omega) ⟨by show sD y ≤ Y.1 20 3; rw [e_3]; exact hD1, by show sU y ≤ Y.1 20 2; rw [e_2]; exact hU1⟩ (fun t ht h3 => ?_), hE, hFi⟩
  · have hPP2 : PP s y ≤ PP (newV s e) Y := by
      unfold PP
      rw [eit]
      show (itl y).length + 2 + 2 * nV s ≤ (itl y).length + 2 + 2 * (nV s + 1)
      omega
    unfold Vok
    rw [v1, v2, v3, v4, v5, v6, v7, v8, v9, v10, v11, p6, p7, p2, w1, e_p, hcx, eF, ew, eM, efr, ci.ext e_ih, ci.ext e_ih, e_ih]
    refine ⟨⟨Nat.zero_le _, Nat.zero_le _⟩, ⟨by omega, vb2⟩, by omega, ⟨?_, by omega, by omega, by omega, by omega, by omega⟩, ⟨List.nodup_nil, fun x hx => absurd hx (by simp)⟩, ⟨List.nodup_nil, fun x hx => absurd hx (by simp)⟩, fun h => ⟨rfl, fun x hx => absurd hx (by simp)⟩, ⟨?_, ?_⟩, fun _ => ?_, fun h => absurd hz h⟩
    · have := Nat.mul_le_mul_left (kk y u) hPP2
      rw [Nat.sub_zero]
      omega
    · show d ≤ Y.1 20 3
      rw [e_3]
      omega
    · show f ≤ Y.1 20 2
      rw [e_2]
      omega
    · simp only [true_and]
      exact hk
  · obtain ⟨v1, v2, v3, v4, v5, v6, v7, v8, v9, v10, v11⟩ := e_v t
    have hne : t ≠ nT s := by omega
    rw [if_neg hne] at v1 v2 v3 v4 v5 v6 v7 v8 v9 v10 v11
    exact ⟨v5, v6, v7, v8, v4, v9, v1, v2, v3, v10, v11⟩
  · obtain ⟨-, -, -, -, -, -, -, -, j1, j2⟩ := (hI.2 t ht).2 h3
    rw [hcx, eF, e_p, ci.ext e_ih, ci.ext e_ih, e_ih]
    exact ⟨j1, j2⟩
