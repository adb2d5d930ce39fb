/-! PURE: the rows of a set of parts, in order -/
def upTo (g : Nat → List (List Nat)) : Nat → List (List Nat)
  | 0 => []
  | i + 1 => upTo g i ++ g i
/-- the rows that begin with pre and take f parts more out of S, the smallest first -/
def dfs (S : Nat → Bool) : Nat → List Nat → List (List Nat)
  | 0, pre => [pre]
  | f + 1, pre => upTo (fun i => if S i && !pre.contains i then dfs S f (pre ++ [i]) else []) 6
theorem dfs_s {S : Nat → Bool} {f : Nat} {pre : List Nat} : dfs S (f + 1) pre = upTo (fun i => if S i && !pre.contains i then dfs S f (pre ++ [i]) else []) 6 := rfl
def gt (l : List Nat) (k : Nat) : Nat := l.getD k 0
/-- b follows a -/
def nxOK (n : Nat) (a b : List Nat) : Bool := (List.range n).any (fun i => decide (i + 1 < n) && decide (gt a i < gt a (i + 1)) && (List.range n).all (fun k => decide (k ≤ i) || decide (n ≤ k + 1) || decide (gt a (k + 1) < gt a k)) &&
  (List.range n).any (fun j => decide (i < j) && decide (gt a i < gt a j) && (List.range n).all (fun k => (decide (k ≤ j) || decide (gt a k < gt a i)) && decide (gt b k = if k < i then gt a k else if k = i then gt a j else if n + i - k = j then gt a i else gt a (n + i - k)))))
def laOK (n : Nat) (a : List Nat) : Bool := (List.range n).all (fun k => decide (n ≤ k + 1) || decide (gt a (k + 1) < gt a k))
def asc (n : Nat) (a : List Nat) : Bool := (List.range n).all (fun k => decide (n ≤ k + 1) || decide (gt a k < gt a (k + 1)))
def chn (n : Nat) : List (List Nat) → Bool
  | [] => true
  | a :: r => (match r with
    | [] => laOK n a
    | b :: _ => nxOK n a b) && chn n r
def seen (S : Nat → Bool) (n : Nat) (a : List Nat) : Bool := decide (a.length = n) && (List.range n).all (fun k => decide (gt a k < 6) && S (gt a k) && (List.range n).all (fun j => decide (j = k) || decide (gt a j ≠ gt a k)))
def cB (S : Nat → Bool) : Nat → Nat
  | 0 => 0
  | i + 1 => cB S i + (if S i then 1 else 0)
def hdOK (n : Nat) : List (List Nat) → Bool
  | [] => false
  | a :: r => asc n a && r.all (fun b => !asc n b)
def chkL (S : Nat → Bool) (n : Nat) (L : List (List Nat)) : Bool := hdOK n L && chn n L && L.all (seen S n)
/-- a set of parts -/
def pS (b0 b1 b2 b3 b4 b5 : Bool) : Nat → Bool
  | 0 => b0
  | 1 => b1
  | 2 => b2
  | 3 => b3
  | 4 => b4
  | 5 => b5
  | _ + 6 => false
set_option maxRecDepth 100000 in
theorem chk_all : ∀ b0 b1 b2 b3 b4 b5 : Bool, chkL (pS b0 b1 b2 b3 b4 b5) (cB (pS b0 b1 b2 b3 b4 b5) 6) (dfs (pS b0 b1 b2 b3 b4 b5) (cB (pS b0 b1 b2 b3 b4 b5) 6) []) = true := by decide +kernel
