/-! the text, read by plain descent: (place of the token, values made, code); a fault ends it -/
abbrev PS := Nat × Nat × List Int32
abbrev PR := Nat ⊕ PS
def bnR (r : PR) (k : PS → PR) : PR := match r with
  | .inl f => .inl f
  | .inr s => k s
def flt (p k : Nat) : PR := .inl (1 + 8 * p + k)
section AB
variable (T : Nat → Nat) (n : Nat)
def nx (p : Nat) : Nat := ev T n isSp (tkE T n p)
def sym (p c : Nat) : Bool := decide (p < n ∧ T p = c)
def wno (p : Nat) : Option Nat := fnd (fun k => wdB T n p (wl_ (15 + k))) 9 0
def one (p : Nat) (s : PS) (k : PS → PR) : PR := if s.2.1 < 80 then k (s.1, s.2.1 + 1, s.2.2) else flt p 3
def lay (v : Int32) (s : PS) : PS := (s.1, s.2.1, s.2.2 ++ [v])
def stp (s : PS) : PS := (nx T n s.1, s.2.1, s.2.2)
def aVal (rc : Nat → Nat → PS → PR) (d : Nat) (s : PS) : PR :=
  if s.1 < n ∧ isDg (T s.1) = true then
    (if tkE T n s.1 - s.1 ≤ 5 then one s.1 s (fun s' => .inr (stp T n (lay (nI (nvl T s.1 (tkE T n s.1 - s.1))) s'))) else flt s.1 1)
  else if sym T n s.1 40 = true then
    (if d < 10 then one s.1 s (fun s' => bnR (rc 4 (d + 1) (stp T n s')) (fun s2 => if sym T n s2.1 41 = true then .inr (stp T n s2) else flt s2.1 0)) else flt s.1 2)
  else match wno T n s.1 with
    | none => flt s.1 0
    | some k => one s.1 s (fun s' => .inr (stp T n (lay (-1 - nI k) s')))
def aProdL (rc : Nat → Nat → PS → PR) (d : Nat) : Nat → PS → PR
  | 0, s => .inr s
  | k + 1, s => if sym T n s.1 42 = true then bnR (rc 6 d (stp T n s)) (fun s' => aProdL rc d k (lay (-15) s')) else .inr s
def aProd (rc : Nat → Nat → PS → PR) (d : Nat) (s : PS) : PR := bnR (rc 6 d s) (aProdL T n rc d 400)
def aSumL (rc : Nat → Nat → PS → PR) (d : Nat) : Nat → PS → PR
  | 0, s => .inr s
  | k + 1, s => if sym T n s.1 43 = true then bnR (rc 5 d (stp T n s)) (fun s' => aSumL rc d k (lay (-13) s')) else if sym T n s.1 45 = true then bnR (rc 5 d (stp T n s)) (fun s' => aSumL rc d k (lay (-14) s')) else .inr s
def aSum (rc : Nat → Nat → PS → PR) (d : Nat) (s : PS) : PR := bnR (rc 5 d s) (aSumL T n rc d 400)
def aCmp (rc : Nat → Nat → PS → PR) (d : Nat) (s : PS) : PR := bnR (rc 4 d s) (fun s1 => if f_X4_comparisonOf (tkK T n s1.1) = -1 then flt s1.1 0 else one s1.1 s1 (fun s2 => bnR (rc 4 d (stp T n s2)) (fun s3 => .inr (lay (f_X4_comparisonOf (tkK T n s1.1)) s3))))
def aFact (rc : Nat → Nat → PS → PR) (d : Nat) (s : PS) : PR :=
  if wdB T n s.1 (wl_ 14) = true then (if d < 10 then bnR (rc 2 (d + 1) (stp T n s)) (fun s' => .inr (lay (-10) s')) else flt s.1 2)
  else if sym T n s.1 91 = true then (if d < 10 then bnR (rc 0 (d + 1) (stp T n s)) (fun s2 => if sym T n s2.1 93 = true then .inr (stp T n s2) else flt s2.1 0) else flt s.1 2)
  else rc 3 d s
def aPartL (rc : Nat → Nat → PS → PR) (d : Nat) : Nat → PS → PR
  | 0, s => .inr s
  | k + 1, s => if wdB T n s.1 (wl_ 13) = true then bnR (rc 2 d (stp T n s)) (fun s' => aPartL rc d k (lay (-11) s')) else .inr s
def aPart (rc : Nat → Nat → PS → PR) (d : Nat) (s : PS) : PR := bnR (rc 2 d s) (aPartL T n rc d 400)
def aTestL (rc : Nat → Nat → PS → PR) (d : Nat) : Nat → PS → PR
  | 0, s => .inr s
  | k + 1, s => if wdB T n s.1 (wl_ 12) = true then bnR (rc 1 d (stp T n s)) (fun s' => aTestL rc d k (lay (-12) s')) else .inr s
def aTest (rc : Nat → Nat → PS → PR) (d : Nat) (s : PS) : PR := bnR (rc 1 d s) (aTestL T n rc d 400)
def AG : Nat → Nat → Nat → PS → PR
  | 0, _, _, s => .inr s
  | f + 1, w, d, s => match w with
    | 0 => aTest T n (AG f) d s
    | 1 => aPart T n (AG f) d s
    | 2 => aFact T n (AG f) d s
    | 3 => aCmp T n (AG f) d s
    | 4 => aSum T n (AG f) d s
    | 5 => aProd T n (AG f) d s
    | 6 => aVal T n (AG f) d s
    | _ => .inr s
end AB
