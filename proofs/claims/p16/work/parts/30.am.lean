/-! ===== the machine of TYPING, told once for both programs: numbers by kind and place, rows of numbers by kind and place, what was asked ===== -/
abbrev aM : Type := Nat → Nat → Nat
abbrev aL : Type := Nat → Nat → List Nat
abbrev aS : Type := aM × aL × List (Nat × Nat)
def mst (m : aM) (f i v : Nat) : aM := fun g j => if g = f then (if j = i then v else m g j) else m g j
def lst (m : aL) (f i : Nat) (v : List Nat) : aL := fun g j => if g = f then (if j = i then v else m g j) else m g j
def w1 (s : aS) (f i v : Nat) : aS := (mst s.1 f i v, s.2.1, s.2.2)
def w2 (s : aS) (f i : Nat) (v : List Nat) : aS := (s.1, lst s.2.1 f i v, s.2.2)
/-- 0: numbers alone (0 types, 1 variables, 2 steps, 3 stop: 1 spent, 2 fault, 4 where + 1, 5 the node that asks, 6 bounds); 1 sort (0 plain, 1 function, 2 record, 3 variable), 2 level, 3 first or number, 4 second; 6 the type of a variable's number; 7 what became of a variable in this time of asking, + 1; 8 what a node gave, 9 its scheme's level + 1 -/
abbrev nT (s : aS) : Nat := s.1 0 0
abbrev nV (s : aS) : Nat := s.1 0 1
abbrev stp (s : aS) : Nat := s.1 0 2
abbrev sto (s : aS) : Nat := s.1 0 3
abbrev askn (s : aS) : Nat := s.1 0 5
abbrev bnd (s : aS) : Nat := s.1 0 6
abbrev srt (s : aS) (t : Nat) : Nat := s.1 1 t
abbrev lev (s : aS) (t : Nat) : Nat := s.1 2 t
abbrev one (s : aS) (t : Nat) : Nat := s.1 3 t
abbrev two (s : aS) (t : Nat) : Nat := s.1 4 t
abbrev memo (s : aS) (i : Nat) : Nat := s.1 7 i
/-- rows: 0 below, 1 above a variable (by its type); 2 a record's parts, 3 its labels -/
abbrev row (s : aS) (side t : Nat) : List Nat := s.2.1 side t
abbrev parts (s : aS) (t : Nat) : List Nat := s.2.1 2 t
abbrev labs (s : aS) (t : Nat) : List Nat := s.2.1 3 t
def stops (s : aS) (why place : Nat) : aS := if sto s = 0 then w1 (w1 s 0 3 why) 0 4 (place + 1) else s
def newT (s : aS) (sort level : Nat) : aS := w1 (w1 (w1 s 1 (nT s) sort) 2 (nT s) level) 0 0 (nT s + 1)
def newV (s : aS) (level : Nat) : aS := w2 (w2 (w1 (w1 (w1 (newT s 3 level) 3 (nT s) (nV s)) 6 (nV s) (nT s)) 0 1 (nV s + 1)) 0 (nT s) []) 1 (nT s) []
def mkV (s : aS) (level : Nat) : aS × Nat := if nV s = 150 then (stops s 1 (askn s), 0) else if nT s = 602 then (stops s 1 (askn s), 0) else (newV s level, nT s)
def mkA (s : aS) (a b : Nat) : aS × Nat := if sto s ≠ 0 then (s, 0) else if nT s = 602 then (stops s 1 (askn s), 0) else (w1 (w1 (newT s 1 (max (lev s a) (lev s b))) 3 (nT s) a) 4 (nT s) b, nT s)
def lmax (s : aS) : List Nat → Nat
  | [] => 0
  | x :: xs => max (lev s x) (lmax s xs)
def mkR (s : aS) (ls ps : List Nat) : aS × Nat := if sto s ≠ 0 then (s, 0) else if nT s = 602 then (stops s 1 (askn s), 0) else (w2 (w2 (newT s 2 (lmax s ps)) 2 (nT s) ps) 3 (nT s) ls, nT s)
def bind (s : aS) (v side t : Nat) : aS := w1 (w2 s side v (row s side v ++ [t])) 0 6 (bnd s + 1)
/-- a record's parts, one after another -/
def cpL (f : aS → Nat → aS × Nat) : aS → List Nat → aS × List Nat
  | s, [] => (s, [])
  | s, x :: xs => if sto s ≠ 0 then (s, []) else ((cpL f (f s x).1 xs).1, (f s x).2 :: (cpL f (f s x).1 xs).2)
/-- a row's types, one after another, each put behind a side of n -/
def cpR (f : aS → Nat → aS × Nat) (n side : Nat) : aS → List Nat → aS
  | s, [] => s
  | s, x :: xs => if sto s ≠ 0 then s else cpR f n side (if sto (f s x).1 = 0 then bind (f s x).1 n side (f s x).2 else (f s x).1) xs
def otw (way : Nat) : Nat := if way = 2 then 2 else 1 - way
def mkey (s : aS) (t way : Nat) : Nat := 2 * one s t + (if way = 1 then 1 else 0)
/-- the link that lifting leaves: up (0) above, down (1) below -/
def link (s : aS) (t way n : Nat) : aS := if way = 0 then bind s t 1 n else if way = 1 then bind s t 0 n else s
/-- LIFTED up (0), down (1); MADE ANEW (2): what is above a level becomes new, its variables at a level; k: how deep it may go on -/
def cp : Nat → aS → Nat → Nat → Nat → Nat → aS × Nat
  | 0, s, _, _, _, _ => (stops s 1 (askn s), 0)
  | k + 1, s, t, way, ab, lv =>
    if sto s ≠ 0 then (s, 0)
    else if lev s t ≤ ab then (s, t)
    else if srt s t = 1 then
      mkA (cp k (cp k s (one s t) (otw way) ab lv).1 (two s t) way ab lv).1 (cp k s (one s t) (otw way) ab lv).2 (cp k (cp k s (one s t) (otw way) ab lv).1 (two s t) way ab lv).2
    else if srt s t = 2 then
      mkR (cpL (fun s x => cp k s x way ab lv) s (parts s t)).1 (labs s t) (cpL (fun s x => cp k s x way ab lv) s (parts s t)).2
    else if memo s (mkey s t way) ≠ 0 then (s, memo s (mkey s t way) - 1)
    else if sto (mkV s lv).1 ≠ 0 then ((mkV s lv).1, 0)
    else
      let n := (mkV s lv).2
      let a := link (w1 (mkV s lv).1 7 (mkey s t way) (n + 1)) t way n
      let b := if way = 1 then a else cpR (fun s x => cp k s x way ab lv) n 0 a (row a 0 t)
      let c := if way = 0 then b else cpR (fun s x => cp k s x way ab lv) n 1 b (row b 1 t)
      (c, n)
/-- a new time of asking -/
def newTime (s : aS) : aS := ((fun g j => if g = 7 then 0 else s.1 g j), s.2.1, s.2.2)
def startCp (s : aS) (t way ab lv : Nat) : aS × Nat := cp 60 (newTime s) t way ab lv
def partBy : List Nat → List Nat → Nat → Option Nat
  | l :: ls, p :: ps, x => if l = x then some p else partBy ls ps x
  | _, _, _ => none
def unR (f : aS → Nat → Nat → aS) (a : Nat) : aS → List Nat → List Nat → aS
  | s, l :: ls, p :: ps => if sto s ≠ 0 then s else match partBy (labs s a) (parts s a) l with
    | none => unR f a (stops s 2 (askn s)) ls ps
    | some q => unR f a (f s q p) ls ps
  | s, _, _ => s
/-- a UNDER b, asked the first time -/
def asks (f : aS → Nat → Nat → aS) (s : aS) (a b : Nat) : aS :=
  if srt s a = 0 ∧ a = b then s
  else if srt s a = 1 ∧ srt s b = 1 then f (f s (one s b) (one s a)) (two s a) (two s b)
  else if srt s a = 2 ∧ srt s b = 2 then unR f a s (labs s b) (parts s b)
  else if srt s a = 3 ∧ lev s b ≤ lev s a then (row s 0 a).foldl (fun s x => f s x b) (bind s a 1 b)
  else if srt s b = 3 ∧ lev s a ≤ lev s b then (row s 1 b).foldl (fun s x => f s a x) (bind s b 0 a)
  else if srt s a = 3 then f (startCp s b 1 (lev s a) (lev s a)).1 a (startCp s b 1 (lev s a) (lev s a)).2
  else if srt s b = 3 then f (startCp s a 0 (lev s b) (lev s b)).1 (startCp s a 0 (lev s b) (lev s b)).2 b
  else stops s 2 (askn s)
def asked (s : aS) (a b : Nat) : aS := (s.1, s.2.1, (a, b) :: s.2.2)
def un : Nat → aS → Nat → Nat → aS
  | 0, s, _, _ => if sto s ≠ 0 then s else if stp s = 1500 then stops s 1 (askn s) else stops (w1 s 0 2 (stp s + 1)) 1 (askn s)
  | k + 1, s, a, b => if sto s ≠ 0 then s else if stp s = 1500 then stops s 1 (askn s) else if (a, b) ∈ s.2.2 then w1 s 0 2 (stp s + 1) else asks (un k) (asked (w1 s 0 2 (stp s + 1)) a b) a b
/-! TYPING: the tree's numbers tr: 0 kind, 1 v, 2 how many parts, 3 whose part, + 1; 10 + k part k, 20 + k label k -/
def fresh (s : aS) (n level : Nat) : aS × Nat := if sto s ≠ 0 then (w1 s 0 5 n, 0) else mkV (w1 s 0 5 n) level
def puts (s : aS) (n a b : Nat) : aS := if sto s ≠ 0 then w1 s 0 5 n else un 60 (w1 s 0 5 n) a b
def gives (s : aS) (n t sc : Nat) : aS := w1 (w1 s 8 n t) 9 n sc
def binder (tr : aM) (top x : Nat) : Nat → Nat → Option Nat
  | 0, _ => none
  | k + 1, c => if c = top then none else if tr 3 c = 0 then none else
    if tr 1 (tr 3 c - 1) = x ∧ (tr 0 (tr 3 c - 1) = 3 ∨ (tr 0 (tr 3 c - 1) = 7 ∧ tr 11 (tr 3 c - 1) = c) ∨ tr 0 (tr 3 c - 1) = 8) then some (tr 3 c - 1) else binder tr top x k (tr 3 c - 1)
def tyName (tr : aM) (top : Nat) (s : aS) (n l : Nat) : aS × Nat :=
  match binder tr top (tr 1 n) 120 n with
  | none => (stops (w1 s 0 5 n) 2 n, 0)
  | some u => if s.1 9 u = 0 then (w1 s 0 5 n, s.1 8 u) else startCp (w1 s 0 5 n) (s.1 8 u) 2 (s.1 9 u - 1) l
def tys (f : aS → Nat → aS × Nat) : aS → List Nat → aS × List Nat
  | s, [] => (s, [])
  | s, x :: xs => if sto s ≠ 0 then (s, []) else ((tys f (f s x).1 xs).1, (f s x).2 :: (tys f (f s x).1 xs).2)
def ty (tr : aM) (top : Nat) : Nat → aS → Nat → Nat → aS × Nat
  | 0, s, n, _ => (stops s 1 n, 0)
  | k + 1, s, n, l =>
    if sto s ≠ 0 then (s, 0)
    else match tr 0 n with
    | 0 => (s, 0)
    | 1 => (s, 1)
    | 2 => tyName tr top s n l
    | 3 =>
      let v := fresh s n l
      let t := ty tr top k (gives v.1 n v.2 0) (tr 10 n) l
      mkA (w1 t.1 0 5 n) v.2 t.2
    | 4 =>
      let f := ty tr top k s (tr 10 n) l
      let x := ty tr top k f.1 (tr 11 n) l
      let r := fresh x.1 n l
      let to := mkA r.1 x.2 r.2
      (puts to.1 n f.2 to.2, r.2)
    | 5 =>
      let r := tys (fun s x => ty tr top k s x l) s ((List.range (tr 2 n)).map (fun i => tr (10 + i) n))
      if sto r.1 ≠ 0 then (r.1, 0) else mkR (w1 r.1 0 5 n) ((List.range (tr 2 n)).map (fun i => tr (20 + i) n)) r.2
    | 6 =>
      let t := ty tr top k s (tr 10 n) l
      let v := fresh t.1 n l
      let r := mkR v.1 [tr 1 n] [v.2]
      (puts r.1 n t.2 r.2, v.2)
    | 7 =>
      let t := ty tr top k s (tr 10 n) (l + 1)
      ty tr top k (gives t.1 n t.2 (l + 1)) (tr 11 n) l
    | 8 =>
      let e := fresh s n (l + 1)
      let t := ty tr top k (gives e.1 n e.2 0) (tr 10 n) (l + 1)
      let p := puts t.1 n t.2 e.2
      ty tr top k (w1 p 9 n (l + 1)) (tr 11 n) l
    | 9 =>
      let t := ty tr top k s (tr 10 n) l
      let p := puts t.1 n t.2 1
      let r := fresh p n l
      let x := ty tr top k r.1 (tr 11 n) l
      let q := puts x.1 n x.2 r.2
      let y := ty tr top k q (tr 12 n) l
      (puts y.1 n y.2 r.2, r.2)
    | m =>
      let t := ty tr top k s (tr 10 n) l
      let p := puts t.1 n t.2 0
      let u := ty tr top k p (tr 11 n) l
      (puts u.1 n u.2 0, if m = 10 then 0 else 1)
/-- a new start: WHOLE and TRUTH are there -/
def start : aS := ((fun g i => if g = 0 ∧ i = 0 then 2 else 0), (fun _ _ => []), [])
def typeOf (tr : aM) (top : Nat) : aS × Nat := ty tr top 60 start top 0
