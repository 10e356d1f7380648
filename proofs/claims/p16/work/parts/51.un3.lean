theorem un_lo {f : aS → Nat → Nat → aS} {s : aS} {y : aG} {c a b e z r q v : Nat} (hf : UnF f c) (hI : Inv s y c) (hM : sM y < stp s) (hA : (a, b) ∈ s.2.2) (hm : a ∉ ol y b) (hz : Cx y c e z) (ha : Fi s y a e z) (hb : Fi s y b e z) (hp : ps y a = 1) (hi : ih y z = 1) (h3 : srt s b = 3) (hl : lev s a ≤ lev s b) (hT : Tk s y a b r q v) :
    ∃ y', Inv ((row s 1 b).foldl (fun s x => f s a x) (bind s b 0 a)) y' c ∧ Ex s y ((row s 1 b).foldl (fun s x => f s a x) (bind s b 0 a)) y' ∧ Ku s y ((row s 1 b).foldl (fun s x => f s a x) (bind s b 0 a)) y' r q v b := by
  obtain ⟨v1, v2, v3⟩ := var_at hI hz hb h3
  have hzc := hI.1.2.2.1.1
  have had : Fi s y a (lev s b) (zn y b) := ha.down hzc hz v1 hl hb.2.1
  obtain ⟨y0, o1, o2, o3, o4, o5, o6, o7⟩ : ∃ y0, Inv s y0 c ∧ Ex s y s y0 ∧ Ku s y s y0 0 0 0 b ∧ nt y0 b = 1 ∧ sM y0 = sM y ∧ Tk s y0 a b r q v ∧ a ∉ ol y0 b := by
    by_cases hc : nt y b = 1
    · exact ⟨y, hI, Ex.rf, Ku.rf, hc, rfl, hT, hm⟩
    · have hnt : nt y b = 0 := by
        have := ((hI.2 b hb.1).2 h3).2.2.2.1.2.1
        omega
      obtain ⟨q1, q2⟩ := i_ntb hI hb.1 h3 hnt v1 (v2 hi)
      exact ⟨ntb y b, q1, q2, ku_ntb, by simp [nt, ntb, h1, mst], rfl, hT, hm⟩
  obtain ⟨t1, ⟨t2, t3⟩, ⟨t4, t5, t6⟩, t7⟩ := o6
  have hV0 := (o1.2 b hb.1).2 h3
  have hB0 := hV0.2.1
  have hO0 := o1.1.2.2.2.2.2.1.2.2
  obtain ⟨y1, i1, i2, i3, i4, i5, i6, i7, i8⟩ : ∃ y1, Inv s y1 c ∧ Ex s y0 s y1 ∧ Ku s y0 s y1 r q v b ∧ nt y1 b = 1 ∧ xl y1 b + xh y1 b + sw y1 + 1 ≤ sM y1 + nf y1 b ∧ sO y1 + 1 ≤ sM y1 ∧ a ∉ ol y1 b ∧ (rm y1 a = 1 → it y1 a = 1) := by
    by_cases hc : rm y0 a = 1 → it y0 a = 1
    · obtain ⟨p1, p2⟩ := i_pay o1 (show sM y0 < stp s by omega)
      refine ⟨pay y0, p1, p2, (ku_pay (b := b)).mono (Nat.zero_le _) (Nat.zero_le _) b, o4, ?_, ?_, o7, hc⟩
      · show xl y0 b + xh y0 b + sw y0 + 1 ≤ sM y0 + 1 + nf y0 b
        omega
      · show sO y0 + 1 ≤ sM y0 + 1
        omega
    · have hrm : rm y0 a = 1 := Classical.byContradiction (fun h => hc (fun h' => absurd h' h))
      have hit : ¬ it y0 a = 1 := fun h => hc (fun _ => h)
      rcases t1 h3 hrm with h | ⟨hr, h⟩ | h
      · exact absurd h hit
      · obtain ⟨ap, e1, e2, e3⟩ : ∃ ap : List Nat, (itl y0).length + 1 + ap.length ≤ sg y0 + sA y0 ∧ (∀ x, x ∈ apl y0 → x ≠ a → x ∈ ap ∨ it y0 x = 1) ∧ 1 + ap.length ≤ (apl y0).length + q := by
          rcases h with h | h
          · exact ⟨apl y0, by omega, fun x hx _ => Or.inl hx, by omega⟩
          · have hpos : 0 < (apl y0).length := List.length_pos_of_mem h
            refine ⟨(apl y0).erase a, ?_, fun x hx hxa => Or.inl ((List.mem_erase_of_ne hxa).mpr hx), ?_⟩
            · rw [List.length_erase_of_mem h]
              omega
            · rw [List.length_erase_of_mem h]
              omega
        obtain ⟨j1, j2, j3, j4, j5⟩ := i_itr (a := a) (ap := ap) o1 (by omega) e1 e2
        obtain ⟨p1, p2⟩ := i_pay j1 (show sM (itr y0 a ap) < stp s by show sM y0 < stp s; omega)
        refine ⟨pay (itr y0 a ap), p1, j2.tr p2, ?_, o4, ?_, ?_, o7, fun _ => j3⟩
        · refine Ku.gh (fun i hi => by rcases hi with h | h | h <;> subst h <;> rfl) (fun _ => rfl) (fun _ => rfl) ⟨?_, ?_⟩ (fun _ _ => Nat.le_add_right _ _)
          · show sg y0 + 2 * sd y0 + (itl (itr y0 a ap)).length ≤ sg y0 + 2 * sd y0 + (itl y0).length + r
            rw [j4, List.length_cons]
            omega
          · show sg y0 + (itl (itr y0 a ap)).length + (apl (itr y0 a ap)).length ≤ sg y0 + (itl y0).length + (apl y0).length + q
            rw [j4, j5, List.length_cons]
            omega
        · show xl y0 b + xh y0 b + sw y0 + 1 ≤ sM y0 + 1 + nf y0 b
          omega
        · show sO y0 + 1 ≤ sM y0 + 1
          omega
      · obtain ⟨w1', w2'⟩ := i_wst (r := 1) (d := 0) o1 (show sM y0 < stp s by omega) (by omega)
        obtain ⟨-, k1, k2, k3, k4⟩ := ku_wst (s := s) (y := y0) (r := 1) (d := 0) (b := b)
        obtain ⟨j1, j2, j3, j4, j5⟩ := i_itr (a := a) (ap := apl y0) w1' (by rw [k1, k2, k3]; omega) (by rw [k1, k3]; show (itl y0).length + 1 + (apl y0).length ≤ sg y0 + 1 + sA y0; omega) (fun x hx _ => Or.inl hx)
        have hnf : nf (itr (wst y0 1 0) a (apl y0)) b ≤ 1 := t7 h
        obtain ⟨n1, n2⟩ := i_nfb (u := b) j1 hnf
        have enf : nf (nfb (itr (wst y0 1 0) a (apl y0)) b) b = nf y0 b + 1 := by
          simp [nf, nfb, itr, wst, h1, h2, mst]
        refine ⟨nfb (itr (wst y0 1 0) a (apl y0)) b, n1, (w2'.tr j2).tr n2, ?_, o4, ?_, ?_, o7, fun _ => j3⟩
        · refine Ku.gh (fun i hi => by rcases hi with h | h | h <;> subst h <;> rfl) (fun _ => rfl) (fun _ => rfl) ⟨?_, ?_⟩ (fun t ht => ?_)
          · show sg y0 + 2 * sd y0 + (itl (itr (wst y0 1 0) a (apl y0))).length ≤ sg y0 + 1 + 2 * (sd y0 + 0) + (itl y0).length + r
            rw [j4, k3, List.length_cons]
            omega
          · show sg y0 + (itl (itr (wst y0 1 0) a (apl y0))).length + (apl (itr (wst y0 1 0) a (apl y0))).length ≤ sg y0 + 1 + (itl y0).length + (apl y0).length + q
            rw [j4, j5, k3, List.length_cons]
            omega
          · by_cases htb : t = b
            · subst htb
              rw [enf, if_pos ⟨h, rfl⟩]
              exact Nat.le_refl _
            · have : nf (nfb (itr (wst y0 1 0) a (apl y0)) b) t = nf y0 t := by simp [nf, nfb, itr, wst, h1, h2, mst, htb]
              rw [this]
              exact Nat.le_add_right _ _
        · rw [enf]
          show xl y0 b + xh y0 b + (sw y0 + 1) + 1 ≤ sM y0 + 1 + (nf y0 b + 1)
          omega
        · show sO y0 + 1 ≤ sM y0 + 1
          omega
  have hzl : zn y b < sZ y := zlt hI.1 v1
  have oi2 := o2.tr i2
  have had1 : Fi s y1 a (lev s b) (zn y1 b) := by
    rw [(oi2.2.2.2.1 b hb.1).1]
    exact had.ext hzl oi2
  have hp1 : ps y1 a = 1 := by
    rw [(oi2.2.2.2.1 a ha.1).2.2.2.2.1]
    exact hp
  have hku : Ku s y s y1 r q v b := by
    obtain ⟨⟨a1, a2, a3, a4, a5⟩, ⟨b1, b2⟩, cc, d⟩ := o3
    obtain ⟨⟨a1', a2', a3', a4', a5'⟩, ⟨b1', b2'⟩, cc', d'⟩ := i3
    refine ⟨⟨a1'.trans a1, a2'.trans a2, a3'.trans a3, fun z => (a4' z).trans (a4 z), fun z => (a5' z).trans (a5 z)⟩, ⟨by omega, by omega⟩, fun t ht => ?_, ⟨rfl, rfl, rfl⟩⟩
    have h5 := cc t ht
    have h6 := cc' t ht
    rw [if_neg (by omega)] at h5
    omega
  obtain ⟨y2, j1, j2, j3, j4⟩ : ∃ y2, Inv (bind s b 0 a) y2 c ∧ Ex s y (bind s b 0 a) y2 ∧ Ku s y (bind s b 0 a) y2 r q v b ∧ (rm y2 a = 1 → it y2 a = 1) := by
    by_cases hfr : srt s a = 3 ∨ srt s a = 0 ∨ rm y1 a = 1
    · obtain ⟨j1, j2⟩ := i_blf i1 had1 hp1 i8 hfr i4 hA i7 i5 i6
      exact ⟨yblf y1 b a, j1, oi2.tr j2, hku.tr (Ku.to (Ku.gh (s := s) (r := 0) (q := 0) (v := 0) (b := b) (fun i hi => by rcases hi with h | h | h <;> subst h <;> rfl) (fun _ => rfl) (fun _ => rfl) ⟨Nat.le_refl _, Nat.le_refl _⟩ (fun _ _ => Nat.le_add_right _ _)) ⟨rfl, rfl, rfl⟩) oi2, i8⟩
    · obtain ⟨j1, j2⟩ := i_bn (side := 0) i1 (by omega) had1 (fun _ => ⟨hp1, i8⟩) (fun h => by omega) hfr i6
      exact ⟨ybn y1, j1, oi2.tr j2, hku.tr (Ku.to (Ku.gh (s := s) (r := 0) (q := 0) (v := 0) (b := b) (fun i hi => by rcases hi with h | h | h <;> subst h <;> rfl) (fun _ => rfl) (fun _ => rfl) ⟨Nat.le_refl _, Nat.le_refl _⟩ (fun _ _ => Nat.le_add_right _ _)) ⟨rfl, rfl, rfl⟩) oi2, i8⟩
  have hrow := ((hI.2 b hb.1).1.rows h3).2
  obtain ⟨y3, k1, k2, k3⟩ := fold_hi (e := lev s b) (z := zn y b) (a := a) hf (row s 1 b) (bind s b 0 a) y2 j1 (j3.cx v1) (had.ext hzl j2) (by rw [(j2.2.2.2.1 a ha.1).2.2.2.2.1]; exact hp) j4 (by rw [j3.1.2.2.2.1]; exact v2 hi) (fun x hx => by
    obtain ⟨x1, x2⟩ := hrow x hx
    obtain ⟨-, -, -, -, -, q6, -⟩ := j2.2.2.2.1 x x1.1
    rw [q6]
    exact ⟨x1.ext hzl j2, x2⟩)
  exact ⟨y3, k1, j2.tr k2, j3.tr k3 j2⟩
