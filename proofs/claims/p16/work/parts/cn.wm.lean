/-! ===== the machine of WORKING, told once for both programs ===== -/
/-- numbers by kind and place; numbers of WHOLES and TRUTHS; parts of RECORDS. 0: numbers alone (0 values, 1 sights, 2 begun, 3 stop: 1 stuck, 2 spent; 4 where); 1 sort, 2 node, 3 sight + 1 of a value; 5 letter, 6 value, 7 rec + 1, 8 next + 1, 9 length of a sight -/
abbrev wmS : Type := (Nat → Nat → Nat) × (Nat → Int32) × (Nat → List Nat)
abbrev wnv (s : wmS) : Nat := s.1 0 0
abbrev ne (s : wmS) : Nat := s.1 0 1
abbrev bgn (s : wmS) : Nat := s.1 0 2
abbrev hlt (s : wmS) : Nat := s.1 0 3
abbrev plc (s : wmS) : Nat := s.1 0 4
abbrev vso (s : wmS) (v : Nat) : Nat := s.1 1 v
abbrev vno (s : wmS) (v : Nat) : Nat := s.1 2 v
abbrev vse (s : wmS) (v : Nat) : Nat := s.1 3 v
abbrev ele (s : wmS) (e : Nat) : Nat := s.1 5 e
abbrev eva (s : wmS) (e : Nat) : Nat := s.1 6 e
abbrev ere (s : wmS) (e : Nat) : Nat := s.1 7 e
abbrev enx (s : wmS) (e : Nat) : Nat := s.1 8 e
/-- how long a sight is; 0: none -/
def eln (s : wmS) (e : Nat) : Nat := if e = 0 then 0 else s.1 9 (e - 1)
def wmq (s : wmS) (f i v : Nat) : wmS := (mst s.1 f i v, s.2)
def wmb (s : wmS) : wmS := wmq s 0 2 (bgn s + 1)
def wmh (s : wmS) (why n : Nat) : wmS × Nat := (wmq (wmq s 0 3 why) 0 4 n, 0)
def wmv (s : wmS) (so n e : Nat) (x : Int32) (fs : List Nat) : wmS × Nat := ((mst (mst (mst (mst s.1 1 (wnv s) so) 2 (wnv s) n) 3 (wnv s) e) 0 0 (wnv s + 1), upd s.2.1 (wnv s) x, fun j => if j = wnv s then fs else s.2.2 j), wnv s)
def wme (s : wmS) (le va re nx : Nat) : wmS := (mst (mst (mst (mst (mst (mst s.1 5 (ne s) le) 6 (ne s) va) 7 (ne s) re) 8 (ne s) nx) 9 (ne s) (eln s nx + 1)) 0 1 (ne s + 1), s.2)
/-- the sight of a letter, + 1; 0: none -/
def wmk (s : wmS) (x : Nat) : Nat → Nat → Nat
  | 0, _ => 0
  | k + 1, e => if e = 0 then 0 else if ele s (e - 1) = x then e else wmk s x k (enx s (e - 1))
def wml (f : wmS → Nat → wmS × Nat) : wmS → List Nat → wmS × List Nat
  | s, [] => (s, [])
  | s, n :: ns => if hlt (f s n).1 = 0 then ((wml f (f s n).1 ns).1, (f s n).2 :: (wml f (f s n).1 ns).2) else ((f s n).1, [])
section WM
variable (tr : aM) (mk : Nat → Int32) (f : wmS → Nat → Nat → wmS × Nat)
def wmName (s : wmS) (n e : Nat) : wmS × Nat := if wmk s (tr 1 n) 120 e = 0 then wmh s 1 n else if ere s (wmk s (tr 1 n) 120 e - 1) = 0 then (s, eva s (wmk s (tr 1 n) 120 e - 1)) else f s (tr 10 (ere s (wmk s (tr 1 n) 120 e - 1) - 1)) (wmk s (tr 1 n) 120 e)
def wmApply3 (s : wmS) (n a b : Nat) : wmS × Nat := if vso s a = 2 then f (wme s (tr 1 (vno s a)) b 0 (vse s a)) (tr 10 (vno s a)) (ne s + 1) else wmh s 1 n
def wmApply2 (s : wmS) (n e a : Nat) : wmS × Nat := if hlt (f s (tr 11 n) e).1 = 0 then wmApply3 tr f (f s (tr 11 n) e).1 n a (f s (tr 11 n) e).2 else ((f s (tr 11 n) e).1, 0)
def wmApply (s : wmS) (n e : Nat) : wmS × Nat := if hlt (f s (tr 10 n) e).1 = 0 then wmApply2 tr f (f s (tr 10 n) e).1 n e (f s (tr 10 n) e).2 else ((f s (tr 10 n) e).1, 0)
def wmRec2 (r : wmS × List Nat) (n : Nat) : wmS × Nat := if hlt r.1 = 0 then wmv r.1 3 n 0 0 r.2 else (r.1, 0)
def wmRecord (s : wmS) (n e : Nat) : wmS × Nat := wmRec2 (wml (fun s n => f s n e) s ((List.range (tr 2 n)).map (fun i => tr (10 + i) n))) n
/-- at which place a label stands among the first k -/
def wmpl (n x : Nat) : Nat → Nat → Nat
  | 0, i => i
  | k + 1, i => if tr (20 + i) n = x then i else wmpl n x k (i + 1)
def wmField2 (s : wmS) (n a : Nat) : wmS × Nat := if vso s a = 3 then (if wmpl tr (vno s a) (tr 1 n) (tr 2 (vno s a)) 0 < tr 2 (vno s a) then (s, (s.2.2 a).getD (wmpl tr (vno s a) (tr 1 n) (tr 2 (vno s a)) 0) 0) else wmh s 1 n) else wmh s 1 n
def wmField (s : wmS) (n e : Nat) : wmS × Nat := if hlt (f s (tr 10 n) e).1 = 0 then wmField2 tr (f s (tr 10 n) e).1 n (f s (tr 10 n) e).2 else ((f s (tr 10 n) e).1, 0)
def wmLet (s : wmS) (n e : Nat) : wmS × Nat := if hlt (f s (tr 10 n) e).1 = 0 then f (wme (f s (tr 10 n) e).1 (tr 1 n) (f s (tr 10 n) e).2 0 e) (tr 11 n) (ne (f s (tr 10 n) e).1 + 1) else ((f s (tr 10 n) e).1, 0)
def wmRecc (s : wmS) (n e : Nat) : wmS × Nat := f (wme s (tr 1 n) 0 (n + 1) e) (tr 11 n) (ne s + 1)
def wmPick2 (s : wmS) (n e a : Nat) : wmS × Nat := if vso s a = 1 then f s (if s.2.1 a = 1 then tr 11 n else tr 12 n) e else wmh s 1 n
def wmPick (s : wmS) (n e : Nat) : wmS × Nat := if hlt (f s (tr 10 n) e).1 = 0 then wmPick2 tr f (f s (tr 10 n) e).1 n e (f s (tr 10 n) e).2 else ((f s (tr 10 n) e).1, 0)
def wmTwo3 (s : wmS) (n a b : Nat) : wmS × Nat := if vso s a = 0 ∧ vso s b = 0 then (if tr 0 n = 10 then wmv s 0 0 0 (s.2.1 a + s.2.1 b) [] else wmv s 1 0 0 (if s.2.1 a < s.2.1 b then 1 else 0) []) else wmh s 1 n
def wmTwo2 (s : wmS) (n e a : Nat) : wmS × Nat := if hlt (f s (tr 11 n) e).1 = 0 then wmTwo3 tr (f s (tr 11 n) e).1 n a (f s (tr 11 n) e).2 else ((f s (tr 11 n) e).1, 0)
def wmTwo (s : wmS) (n e : Nat) : wmS × Nat := if hlt (f s (tr 10 n) e).1 = 0 then wmTwo2 tr f (f s (tr 10 n) e).1 n e (f s (tr 10 n) e).2 else ((f s (tr 10 n) e).1, 0)
def wmd (s : wmS) (n e : Nat) : wmS × Nat :=
  if tr 0 n = 0 then wmv s 0 0 0 (mk n) [] else if tr 0 n = 1 then wmv s 1 0 0 (mk n) [] else if tr 0 n = 2 then wmName tr f s n e else if tr 0 n = 3 then wmv s 2 n e 0 [] else if tr 0 n = 4 then wmApply tr f s n e else if tr 0 n = 5 then wmRecord tr f s n e else if tr 0 n = 6 then wmField tr f s n e else if tr 0 n = 7 then wmLet tr f s n e else if tr 0 n = 8 then wmRecc tr f s n e else if tr 0 n = 9 then wmPick tr f s n e else wmTwo tr f s n e
end WM
def wmx (tr : aM) (mk : Nat → Int32) (al : Nat) : Nat → wmS → Nat → Nat → wmS × Nat
  | 0, s, n, _ => wmh s 2 n
  | k + 1, s, n, e => if al ≤ bgn s then wmh s 2 n else wmd tr mk (wmx tr mk al k) (wmb s) n e
