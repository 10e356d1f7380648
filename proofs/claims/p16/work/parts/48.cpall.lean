theorem cp_eq0 {k : Nat} {s : aS} {t way ab lv : Nat} (h0 : sto s ≠ 0) : cp (k + 1) s t way ab lv = (s, 0) := by
  unfold cp
  rw [if_pos h0]
theorem cp_eq1 {k : Nat} {s : aS} {t way ab lv : Nat} (h0 : ¬ sto s ≠ 0) (h1 : lev s t ≤ ab) : cp (k + 1) s t way ab lv = (s, t) := by
  unfold cp
  rw [if_neg h0, if_pos h1]
theorem cp_eq2 {k : Nat} {s : aS} {t way ab lv : Nat} (h0 : ¬ sto s ≠ 0) (h1 : ¬ lev s t ≤ ab) (h2 : srt s t = 1) : cp (k + 1) s t way ab lv = mkA (cp k (cp k s (one s t) (otw way) ab lv).1 (two s t) way ab lv).1 (cp k s (one s t) (otw way) ab lv).2 (cp k (cp k s (one s t) (otw way) ab lv).1 (two s t) way ab lv).2 := by
  rw [cp, if_neg h0, if_neg h1, if_pos h2]
theorem cp_eq3 {k : Nat} {s : aS} {t way ab lv : Nat} (h0 : ¬ sto s ≠ 0) (h1 : ¬ lev s t ≤ ab) (h2 : srt s t = 2) : cp (k + 1) s t way ab lv = mkR (cpL (fun s x => cp k s x way ab lv) s (parts s t)).1 (labs s t) (cpL (fun s x => cp k s x way ab lv) s (parts s t)).2 := by
  rw [cp, if_neg h0, if_neg h1, if_neg (by omega), if_pos h2]
theorem cp_eq4 {k : Nat} {s : aS} {t way ab lv : Nat} (h0 : ¬ sto s ≠ 0) (h1 : ¬ lev s t ≤ ab) (h2 : srt s t = 3) (h5 : memo s (mkey s t way) ≠ 0) : cp (k + 1) s t way ab lv = (s, memo s (mkey s t way) - 1) := by
  rw [cp, if_neg h0, if_neg h1, if_neg (by omega), if_neg (by omega), if_pos h5]
theorem cp_eq5 {k : Nat} {s : aS} {t way ab lv : Nat} (h0 : ¬ sto s ≠ 0) (h1 : ¬ lev s t ≤ ab) (h2 : srt s t = 3) (h5 : ¬ memo s (mkey s t way) ≠ 0) (h : nV s = 150 ∨ nT s = 602) : cp (k + 1) s t way ab lv = (stops s 1 (askn s), 0) := by
  have hm : mkV s lv = (stops s 1 (askn s), 0) := by
    unfold mkV
    by_cases h7 : nV s = 150
    · rw [if_pos h7]
    · rw [if_neg h7, if_pos (h.resolve_left h7)]
  rw [cp, if_neg h0, if_neg h1, if_neg (by omega), if_neg (by omega), if_neg h5, hm, if_pos (sto_stops (by omega))]
theorem cp_eq6 {k : Nat} {s : aS} {t way ab lv : Nat} (h0 : ¬ sto s ≠ 0) (h1 : ¬ lev s t ≤ ab) (h2 : srt s t = 3) (h5 : ¬ memo s (mkey s t way) ≠ 0) (hN : nT s ≠ 602) (hV : nV s ≠ 150) : cp (k + 1) s t way ab lv =
    ((if way = 0 then (if way = 1 then link (w1 (newV s lv) 7 (mkey s t way) (nT s + 1)) t way (nT s) else cpR (fun s x => cp k s x way ab lv) (nT s) 0 (link (w1 (newV s lv) 7 (mkey s t way) (nT s + 1)) t way (nT s)) (row (link (w1 (newV s lv) 7 (mkey s t way) (nT s + 1)) t way (nT s)) 0 t)) else cpR (fun s x => cp k s x way ab lv) (nT s) 1 (if way = 1 then link (w1 (newV s lv) 7 (mkey s t way) (nT s + 1)) t way (nT s) else cpR (fun s x => cp k s x way ab lv) (nT s) 0 (link (w1 (newV s lv) 7 (mkey s t way) (nT s + 1)) t way (nT s)) (row (link (w1 (newV s lv) 7 (mkey s t way) (nT s + 1)) t way (nT s)) 0 t)) (row (if way = 1 then link (w1 (newV s lv) 7 (mkey s t way) (nT s + 1)) t way (nT s) else cpR (fun s x => cp k s x way ab lv) (nT s) 0 (link (w1 (newV s lv) 7 (mkey s t way) (nT s + 1)) t way (nT s)) (row (link (w1 (newV s lv) 7 (mkey s t way) (nT s + 1)) t way (nT s)) 0 t)) 1 t)), nT s) := by
  have hm : mkV s lv = (newV s lv, nT s) := by
    unfold mkV
    rw [if_neg hV, if_neg hN]
  have h6 : ¬ sto (newV s lv) ≠ 0 := h0
  rw [cp, if_neg h0, if_neg h1, if_neg (by omega), if_neg (by omega), if_neg h5, hm, if_neg h6]
theorem copy_ok {c ab lv z : Nat} : ∀ (k way : Nat), way ≤ 2 → CpF (fun s t => cp k s t way ab lv) c ab lv z (way = 2)
  | 0, way, hw => fun s y t e g hI hM hS ht => by
    show (sto s ≠ 0 → sto (stops s 1 (askn s)) ≠ 0) ∧ CpG s y t c ab lv z (way = 2) (stops s 1 (askn s), 0)
    obtain ⟨i1, i2⟩ := i_stops (w := 1) (p := askn s) hI
    exact ⟨fun _ => sto_stops (by omega), y, i1, i2, kp_stops, Mm.ext hM (hS.zlt hI.1) i2 memo_stops, fun h => absurd h (sto_stops (by omega))⟩
  | k + 1, way, hw => fun s y t e g hI hM hS ht => by
    have hzl : z < sZ y := hS.zlt hI.1
    have hgl : g < sZ y := hS.1.2.1
    show (sto s ≠ 0 → sto (cp (k + 1) s t way ab lv).1 ≠ 0) ∧ CpG s y t c ab lv z (way = 2) (cp (k + 1) s t way ab lv)
    by_cases h0 : sto s ≠ 0
    · rw [cp_eq0 h0]
      exact ⟨fun h => h, y, hI, Ex.rf, Kp.rf, hM, fun h => absurd h h0⟩
    refine ⟨fun h => absurd h h0, ?_⟩
    by_cases h1 : lev s t ≤ ab
    · rw [cp_eq1 h0 h1]
      exact ⟨y, hI, Ex.rf, Kp.rf, hM, fun _ => ⟨ht.keep hS h1, fun h => h, fun h => h, fun _ => rfl, fun h => absurd h1 (Nat.not_le_of_lt h)⟩⟩
    have hab : ab < lev s t := Nat.lt_of_not_le h1
    obtain ⟨⟨tz, tn⟩, hT⟩ := (hI.2 t ht.1).1
    rcases hT with hT | ⟨h2, ⟨r2, r3, r4⟩, ⟨r5, r6⟩, r7, r8, r9, r10, r11, r12, r13⟩ | ⟨h2, r2, r3, r4, r5, r6⟩ | ⟨h3v, r2, r3, ⟨hnv, r4⟩, r5⟩
    · have h5 := hT.2.2.1
      omega
    · have hle : ¬ lev s t < e := fun h => by
        have h5 := (ht.2.2.2 h).1
        omega
      have f1 : Fi s y (one s t) e g := ht.part hS.1.1 hS.1.2.2 (fun h => (r7 h).1) r5 (fun h => absurd h hle)
      have f2 : Fi s y (two s t) e g := ht.part hS.1.1 hS.1.2.2 (fun h => (r7 h).2) r6 (fun h => absurd h hle)
      rw [cp_eq2 h0 h1 h2]
      obtain ⟨-, y1, hI1, hE1, hK1, hM1, hR1⟩ := (copy_ok k (otw way) (otw_ok hw).1).iff (otw_ok hw).2 s y (one s t) e g hI hM hS f1
      obtain ⟨hst, y2, hI2, hE2, hK2, hM2, hR2⟩ := copy_ok k way hw _ y1 (two s t) e g hI1 hM1 (hS.kp hK1) (f2.ext hgl hE1)
      exact cpA_ok hI hS ht hab h2 hE1 hK1 hI1 hR1 f2 hst hI2 hE2 hK2 hM2 hR2 r4 r10 r11 r12 r13 f1.1
    · have fp : ∀ p ∈ parts s t, Fi s y p e g := fun p hp => by
        obtain ⟨q1, q2, q3, q4, -⟩ := r2 p hp
        exact ht.part hS.1.1 hS.1.2.2 q3 q2 (fun h => q4 (ht.2.2.2 h).1)
      rw [cp_eq3 h0 h1 h2]
      obtain ⟨hst, y2, hI2, hE2, hK2, hM2, hR2⟩ := cpL_ok (copy_ok k way hw) (parts s t) s y hI hM hS fp
      exact cpRc_ok hS hab h2 (fun p hp => (r2 p hp).2.2.2.2) r3 r4 r6 hI2 hE2 hK2 hM2 hR2
    · by_cases h5 : memo s (mkey s t way) ≠ 0
      · rw [cp_eq4 h0 h1 h3v h5]
        obtain ⟨m1, m2, m3, m4⟩ := hM _ h5
        obtain ⟨n1, n2, n3⟩ := nw_of hI m1 m2
        exact ⟨y, hI, Ex.rf, Kp.rf, hM, fun _ => ⟨m4, fun _ => n1, fun _ => n2, fun h => absurd h h1, fun _ => ⟨m3, fun _ => m2, fun h => absurd h3v h⟩⟩⟩
      by_cases hNV : nV s = 150 ∨ nT s = 602
      · rw [cp_eq5 h0 h1 h3v h5 hNV]
        obtain ⟨i1, i2⟩ := i_stops (w := 1) (p := askn s) hI
        exact ⟨y, i1, i2, kp_stops, Mm.ext hM hzl i2 memo_stops, fun h => absurd h (sto_stops (by omega))⟩
      · have hN : nT s ≠ 602 := fun h => hNV (Or.inr h)
        have hV : nV s ≠ 150 := fun h => hNV (Or.inl h)
        rw [cp_eq6 h0 h1 h3v h5 hN hV]
        exact cpV_ok (copy_ok k way hw) hw hI hM hS ht hab h3v (by omega) tz hN hV rfl rfl rfl
