/-! ===== what holds of the machine of TYPING at each moment, with numbers that are told beside it (wip/explore/bounds-road.md) ===== -/
abbrev aG : Type := aM × aL
def h1 (y : aG) (f i v : Nat) : aG := (mst y.1 f i v, y.2)
def h2 (y : aG) (f i : Nat) (v : List Nat) : aG := (y.1, lst y.2 f i v)
/-- by type: its zone, whether it has variables, all made by records, made by a record node, sides, stood below something; by variable: line's zones, own asks, length, first ones, what may be copied (below, above), links (below, above), what it got at first, fresh -/
abbrev zn (y : aG) (t : Nat) : Nat := y.1 0 t
abbrev nv (y : aG) (t : Nat) : Nat := y.1 1 t
abbrev ar (y : aG) (t : Nat) : Nat := y.1 2 t
abbrev rm (y : aG) (t : Nat) : Nat := y.1 3 t
abbrev ps (y : aG) (t : Nat) : Nat := y.1 4 t
abbrev ng (y : aG) (t : Nat) : Nat := y.1 5 t
abbrev it (y : aG) (t : Nat) : Nat := y.1 6 t
abbrev kk (y : aG) (t : Nat) : Nat := y.1 7 t
abbrev nt (y : aG) (t : Nat) : Nat := y.1 8 t
abbrev ln (y : aG) (t : Nat) : Nat := y.1 9 t
abbrev nf (y : aG) (t : Nat) : Nat := y.1 10 t
abbrev xl (y : aG) (t : Nat) : Nat := y.1 11 t
abbrev xh (y : aG) (t : Nat) : Nat := y.1 12 t
abbrev kl (y : aG) (t : Nat) : Nat := y.1 13 t
abbrev kh (y : aG) (t : Nat) : Nat := y.1 14 t
abbrev ih (y : aG) (z : Nat) : Nat := y.1 15 z
abbrev fq (y : aG) (t : Nat) : Nat := y.1 16 t
/-- numbers alone: fresh, anew, up, down, waste, first ones' tokens, functions' steps, functions' parts, own, new types in rows, links that came by copying, zones -/
abbrev sF (y : aG) : Nat := y.1 20 0
abbrev sK (y : aG) : Nat := y.1 20 1
abbrev sU (y : aG) : Nat := y.1 20 2
abbrev sD (y : aG) : Nat := y.1 20 3
abbrev sw (y : aG) : Nat := y.1 20 4
abbrev sg (y : aG) : Nat := y.1 20 5
abbrev sd (y : aG) : Nat := y.1 20 6
abbrev sA (y : aG) : Nat := y.1 20 7
abbrev sO (y : aG) : Nat := y.1 20 8
abbrev sN (y : aG) : Nat := y.1 20 9
abbrev sL (y : aG) : Nat := y.1 20 10
abbrev sZ (y : aG) : Nat := y.1 20 11
abbrev ol (y : aG) (t : Nat) : List Nat := y.2 0 t
abbrev oh (y : aG) (t : Nat) : List Nat := y.2 1 t
abbrev pth (y : aG) (z : Nat) : List Nat := y.2 2 z
abbrev frl (y : aG) : List Nat := y.2 3 0
abbrev itl (y : aG) : List Nat := y.2 3 1
abbrev apl (y : aG) : List Nat := y.2 3 2
/-- zone z's way from the top -/
def Zok (y : aG) (z : Nat) : Prop := (pth y z)[(pth y z).length - 1]? = some z ∧ ∀ d z' : Nat, (pth y z)[d]? = some z' → pth y z' = (pth y z).take (d + 1)
/-- type p may stand in a place of level e, zone z -/
def Fi (s : aS) (y : aG) (p e z : Nat) : Prop := p < nT s ∧ lev s p ≤ e ∧ (nv y p = 0 ∨ (pth y z)[lev s p]? = some (zn y p)) ∧ (lev s p < e → ar y p = 1 ∧ (nv y p = 0 ∨ ih y (zn y p) = 1))
/-- zone z is open at depth e, seen from the innermost -/
def Cx (y : aG) (c e z : Nat) : Prop := (pth y c)[e]? = some z
theorem Cx.len {y : aG} {c e z : Nat} (hc : Zok y c) (h : Cx y c e z) : pth y z = (pth y c).take (e + 1) ∧ e < (pth y c).length ∧ (pth y z).length = e + 1 := by
  have h1 := hc.2 e z h
  have h2 : e < (pth y c).length := by
    obtain ⟨h3, -⟩ := List.getElem?_eq_some_iff.mp h
    exact h3
  refine ⟨h1, h2, ?_⟩
  rw [h1, List.length_take]
  omega
theorem Cx.at {y : aG} {c e z d : Nat} (hc : Zok y c) (h : Cx y c e z) (hd : d ≤ e) : (pth y z)[d]? = (pth y c)[d]? := by
  rw [(h.len hc).1, List.getElem?_take]
  rw [if_pos (by omega)]
theorem Cx.self {y : aG} {c e z : Nat} (hc : Zok y c) (h : Cx y c e z) : (pth y z)[e]? = some z := by
  rw [h.at hc (Nat.le_refl e)]
  exact h
theorem Cx.zok {y : aG} {c e z : Nat} (hc : Zok y c) (h : Cx y c e z) : Zok y z := by
  obtain ⟨h1, h2, h3⟩ := h.len hc
  refine ⟨by rw [h3]; exact h.self hc, fun d z' hd => ?_⟩
  have h4 : d ≤ e := by
    obtain ⟨h5, -⟩ := List.getElem?_eq_some_iff.mp hd
    omega
  rw [h.at hc h4] at hd
  rw [hc.2 d z' hd, h1, List.take_take]
  congr 1
  omega
/-- the place of what stands at a lower level in the same place -/
theorem Fi.cx {s : aS} {y : aG} {p e z c : Nat} (hc : Zok y c) (hz : Cx y c e z) (h : Fi s y p e z) (hn : nv y p ≠ 0) : Cx y c (lev s p) (zn y p) := by
  obtain ⟨-, h1, h2, -⟩ := h
  rcases h2 with h2 | h2
  · exact absurd h2 hn
  · rw [hz.at hc h1] at h2
    exact h2
/-- down to a lower place on the same way -/
theorem Fi.down {s : aS} {y : aG} {p e z c e1 z1 : Nat} (hc : Zok y c) (hz : Cx y c e z) (hz1 : Cx y c e1 z1) (h : Fi s y p e z) (hl : lev s p ≤ e1) (h1 : e1 ≤ e) : Fi s y p e1 z1 := by
  obtain ⟨h2, h3, h4, h5⟩ := h
  refine ⟨h2, hl, ?_, fun h6 => h5 (by omega)⟩
  rcases h4 with h4 | h4
  · exact Or.inl h4
  · right
    rw [hz1.at hc hl]
    rw [hz.at hc h3] at h4
    exact h4
/-- a part (or a bound) of what stands in a place, at the place of the whole -/
theorem Fi.part {s : aS} {y : aG} {p t e z c : Nat} (hc : Zok y c) (hz : Cx y c e z) (ht : Fi s y t e z) (hn : nv y t = 0 → nv y p = 0) (hp : Fi s y p (lev s t) (zn y t)) (ha : lev s t < e → ar y p = 1) : Fi s y p e z := by
  obtain ⟨h1, h2, h3, h4⟩ := hp
  have h5 := ht.2.1
  by_cases h6 : nv y t = 0
  · exact ⟨h1, by omega, Or.inl (hn h6), fun h7 => ⟨by
      by_cases h8 : lev s t < e
      · exact ha h8
      · exact (h4 (by omega)).1, Or.inl (hn h6)⟩⟩
  · have h7 := ht.cx hc hz h6
    refine ⟨h1, by omega, ?_, fun h8 => ⟨?_, ?_⟩⟩
    · rcases h3 with h3 | h3
      · exact Or.inl h3
      · right
        rw [h7.at hc h2] at h3
        rw [hz.at hc (by omega)]
        exact h3
    · by_cases h9 : lev s t < e
      · exact ha h9
      · exact (h4 (by omega)).1
    · by_cases h9 : lev s p < lev s t
      · exact (h4 h9).2
      · rcases h3 with h3 | h3
        · exact Or.inl h3
        · right
          have h10 : lev s p = lev s t := by omega
          rw [h10, h7.self hc] at h3
          rw [← Option.some.inj h3]
          exact ((ht.2.2.2 (by omega)).2).resolve_left h6
abbrev sM (y : aG) : Nat := y.1 20 12
/-- a record's type that a node put into a function's -/
def Apc (y : aG) (p : Nat) : Prop := rm y p = 1 → it y p = 1 ∨ p ∈ apl y
/-- a type -/
def Typ (s : aS) (y : aG) (t : Nat) : Prop :=
  (zn y t < sZ y ∧ (nv y t = 0 → lev s t = 0)) ∧
  ((srt s t = 0 ∧ t ≤ 1 ∧ lev s t = 0 ∧ nv y t = 0 ∧ ar y t = 1 ∧ rm y t = 0 ∧ ps y t = 1 ∧ ng y t = 1) ∨
   (srt s t = 1 ∧ (one s t < t ∧ two s t < t ∧ lev s t = max (lev s (one s t)) (lev s (two s t))) ∧ (Fi s y (one s t) (lev s t) (zn y t) ∧ Fi s y (two s t) (lev s t) (zn y t)) ∧ (nv y t = 0 → nv y (one s t) = 0 ∧ nv y (two s t) = 0) ∧ ar y t = 0 ∧ rm y t = 0 ∧ (ps y t = 1 → ng y (one s t) = 1 ∧ ps y (two s t) = 1) ∧ (ng y t = 1 → ps y (one s t) = 1 ∧ ng y (two s t) = 1) ∧ (Apc y (one s t) ∧ Apc y (two s t))) ∨
   (srt s t = 2 ∧ (∀ p ∈ parts s t, p < t ∧ Fi s y p (lev s t) (zn y t) ∧ (nv y t = 0 → nv y p = 0) ∧ (ar y t = 1 → ar y p = 1) ∧ (ps y t = 1 → ps y p = 1) ∧ (ng y t = 1 → ng y p = 1)) ∧ lev s t = lmax s (parts s t) ∧ (labs s t).length = (parts s t).length ∧ (ar y t = 1 → rm y t = 1) ∧ (ng y t = 1 → (parts s t).length ≤ 1 ∧ rm y t = 0)) ∨
   (srt s t = 3 ∧ one s t < nV s ∧ s.1 6 (one s t) = t ∧ (nv y t = 1 ∧ ar y t = 1 ∧ rm y t = 0 ∧ ps y t = 1 ∧ ng y t = 1) ∧ (Zok y (zn y t) ∧ (pth y (zn y t)).length = lev s t + 1) ∧ (∀ x ∈ row s 0 t, Fi s y x (lev s t) (zn y t) ∧ ps y x = 1 ∧ (rm y x = 1 → it y x = 1)) ∧ ∀ x ∈ row s 1 t, Fi s y x (lev s t) (zn y t) ∧ ng y x = 1))
def fre (s : aS) (y : aG) (x : Nat) : Bool := decide (srt s x = 3 ∨ srt s x = 0 ∨ rm y x = 1)
def fc (s : aS) (y : aG) (l : List Nat) : Nat := l.countP (fre s y)
def ci (y : aG) (l : List Nat) : Nat := l.countP (fun z => ih y z == 1)
/-- how many a variable may be asked of its own on both sides -/
def PP (s : aS) (y : aG) : Nat := (itl y).length + 2 + 2 * nV s
/-- a variable's numbers -/
def Vok (s : aS) (y : aG) (c t : Nat) : Prop :=
  (fc s y (row s 0 t) ≤ xl y t + kl y t ∧ fc s y (row s 1 t) ≤ xh y t + kh y t) ∧
  (xl y t + xh y t + sw y ≤ sM y + nf y t ∧ nf y t ≤ 2) ∧
  xl y t + xh y t ≤ fq y t + (ol y t).length + (oh y t).length ∧
  (fq y t ≤ (kk y t - nt y t) * PP s y + 2 * (ln y t - 1) ∧ nt y t ≤ 1 ∧ nt y t ≤ kk y t ∧ kk y t + (1 - nt y t) ≤ ln y t ∧ 1 ≤ ln y t ∧ ln y t ≤ (frl y).length + 1) ∧
  ((ol y t).Nodup ∧ ∀ x ∈ ol y t, (x, t) ∈ s.2.2 ∧ x < nT s ∧ (srt s x = 3 ∨ srt s x = 0 ∨ it y x = 1)) ∧
  ((oh y t).Nodup ∧ ∀ x ∈ oh y t, (t, x) ∈ s.2.2 ∧ x < nT s ∧ (srt s x = 3 ∨ srt s x = 0)) ∧
  (nt y t = 0 → ol y t = [] ∧ ∀ x ∈ oh y t, srt s x = 0) ∧
  (kl y t ≤ sD y ∧ kh y t ≤ sU y) ∧
  ((Cx y c (lev s t) (zn y t) → kk y t + ci y ((pth y c).take (lev s t)) + (if nt y t = 0 ∧ ih y (zn y t) = 1 then 1 else 0) ≤ sF y) ∧ (¬ Cx y c (lev s t) (zn y t) → kk y t + ci y (pth y c) ≤ sF y))
/-- what copies got at first, the latest first -/
def Fok (F P0 : Nat) : List Nat → Prop
  | [] => True
  | e :: r => (e ≤ min (r.length + 1) F * (P0 + 2 * (r.length + F)) + 2 * (r.length + 1)) ∧ Fok F P0 r
/-- the numbers alone -/
def Glo (s : aS) (y : aG) (c : Nat) : Prop :=
  (2 ≤ nT s ∧ nT s ≤ 602 ∧ nV s ≤ 150 ∧ sN y + nV s + 2 ≤ nT s) ∧
  (∀ v, v < nV s → s.1 6 v < nT s ∧ srt s (s.1 6 v) = 3 ∧ one s (s.1 6 v) = v) ∧
  (Zok y c ∧ c < sZ y ∧ (∀ z, z < sZ y → ∀ z' ∈ pth y z, z' < sZ y) ∧ ∀ z, sZ y ≤ z → ih y z = 0) ∧
  (ci y (pth y c) ≤ sF y ∧ nV s = sF y + (frl y).length ∧ (frl y).length = sK y + sU y + sD y) ∧
  ((∀ t, it y t = 1 → t ∈ itl y) ∧ (itl y).length ≤ sg y + 2 * sd y ∧ (itl y).length + (apl y).length ≤ sg y + sA y ∧ sA y ≤ sF y ∧ sg y + sd y ≤ sw y ∧ sw y ≤ sM y) ∧
  (sM y ≤ stp s ∧ stp s ≤ 1500 ∧ sO y ≤ sM y) ∧
  (bnd s ≤ sO y + sN y + (sU y + sD y) + sL y + (frl y).sum ∧ sL y ≤ sK y * (sU y + sD y) + sU y * sD y) ∧
  ((∀ e ∈ frl y, e + sw y ≤ sM y + 2) ∧ Fok (sF y) ((itl y).length + 2) (frl y))
def Inv (s : aS) (y : aG) (c : Nat) : Prop := Glo s y c ∧ ∀ t, t < nT s → Typ s y t ∧ (srt s t = 3 → Vok s y c t)
theorem nd_len : ∀ (l m : List Nat), l.Nodup → (∀ x ∈ l, x ∈ m) → l.length ≤ m.length
  | [], _, _, _ => Nat.zero_le _
  | x :: l, m, h, hm => by
    rw [List.nodup_cons] at h
    have h1 : x ∈ m := hm x (by simp)
    have h2 := nd_len l (m.erase x) h.2 (fun z hz => (List.mem_erase_of_ne (fun e : z = x => h.1 (by rw [← e]; exact hz))).mpr (hm z (by simp [hz])))
    rw [List.length_erase_of_mem h1] at h2
    have h3 : 0 < m.length := List.length_pos_of_mem h1
    simp only [List.length_cons]
    omega
/-- the variables, by number -/
def vrs (s : aS) : List Nat := (List.range (nV s)).map (s.1 6)
theorem vrs_mem {s : aS} {y : aG} {t : Nat} (h : Typ s y t) (h3 : srt s t = 3) : t ∈ vrs s := by
  obtain ⟨-, h | h | h | h⟩ := h
  · omega
  · omega
  · omega
  · exact List.mem_map.mpr ⟨one s t, List.mem_range.mpr h.2.1, h.2.2.1⟩
/-- what a copy gets of a variable -/
theorem Vok.gets {s : aS} {y : aG} {c t : Nat} (hI : Inv s y c) (ht : t < nT s) (h3 : srt s t = 3) : xl y t + xh y t ≤ kk y t * PP s y + 2 * ln y t := by
  obtain ⟨hG, hT⟩ := hI
  obtain ⟨-, -, hC, ⟨hD, hn1, hn2, hD2, hD3, -⟩, ⟨hE1, hE2⟩, ⟨hF1, hF2⟩, hZ, -⟩ := (hT t ht).2 h3
  have hpl : ∀ x, x < nT s → srt s x = 0 → x ≤ 1 := fun x hx h0 => by
    obtain ⟨-, h | h | h | h⟩ := (hT x hx).1
    · exact h.2.1
    · omega
    · omega
    · omega
  have h4 : (oh y t).length ≤ nV s + 2 := by
    have := nd_len (oh y t) (vrs s ++ [0, 1]) hF1 (fun x hx => by
      obtain ⟨-, h5, h6⟩ := hF2 x hx
      rcases h6 with h6 | h6
      · exact List.mem_append_left _ (vrs_mem (hT x h5).1 h6)
      · have := hpl x h5 h6
        exact List.mem_append_right _ (by simp; omega))
    simpa [vrs] using this
  rcases Nat.eq_zero_or_pos (nt y t) with h0 | h0
  · obtain ⟨hz1, hz2⟩ := hZ h0
    have h5 : (oh y t).length ≤ 2 := by
      have := nd_len (oh y t) [0, 1] hF1 (fun x hx => by
        have := hpl x (hF2 x hx).2.1 (hz2 x hx)
        simp
        omega)
      simpa using this
    rw [hz1] at hC
    rw [h0, Nat.sub_zero] at hD
    simp only [List.length_nil] at hC
    omega
  · have h1 : nt y t = 1 := by omega
    have h5 : (ol y t).length ≤ (itl y).length + 2 + nV s := by
      have := nd_len (ol y t) (itl y ++ [0, 1] ++ vrs s) hE1 (fun x hx => by
        obtain ⟨-, h5, h6⟩ := hE2 x hx
        rcases h6 with h6 | h6 | h6
        · exact List.mem_append_right _ (vrs_mem (hT x h5).1 h6)
        · have := hpl x h5 h6
          exact List.mem_append_left _ (List.mem_append_right _ (by simp; omega))
        · exact List.mem_append_left _ (List.mem_append_left _ (hG.2.2.2.2.1.1 x h6)))
      simp [vrs] at this
      omega
    rw [h1] at hD hn2
    have h6 : kk y t * PP s y = (kk y t - 1) * PP s y + PP s y := by
      rw [← Nat.succ_mul]
      congr 1
      omega
    have h7 : PP s y = (itl y).length + 2 + 2 * nV s := rfl
    omega
