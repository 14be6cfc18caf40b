/-! WHAT THE WORKS ARE: numbers of all (g), of each node (f), rows of each node (r: 0, 1 channels, 2 record, 3 last record, 4 open, 5 pending, 6 output) -/
abbrev sS : Type := (Nat → Int) × (Nat → Nat → Int) × (Nat → Nat → List Int)
def sg (σ : sS) (k : Nat) : Int := σ.1 k
def sf (σ : sS) (n k : Nat) : Int := σ.2.1 n k
def sr (σ : sS) (n k : Nat) : List Int := σ.2.2 n k
def ug (σ : sS) (k : Nat) (v : Int) : sS := (fun j => if j = k then v else σ.1 j, σ.2)
def uf (σ : sS) (n k : Nat) (v : Int) : sS := (σ.1, fun a j => if a = n ∧ j = k then v else σ.2.1 a j, σ.2.2)
def ur (σ : sS) (n k : Nat) (L : List Int) : sS := (σ.1, σ.2.1, fun a j => if a = n ∧ j = k then L else σ.2.2 a j)
theorem sg_ug (σ : sS) (k : Nat) (v : Int) (j : Nat) : sg (ug σ k v) j = if j = k then v else sg σ j := rfl
theorem sg_uf (σ : sS) (n k : Nat) (v : Int) (j : Nat) : sg (uf σ n k v) j = sg σ j := rfl
theorem sg_ur (σ : sS) (n k : Nat) (L : List Int) (j : Nat) : sg (ur σ n k L) j = sg σ j := rfl
theorem sf_ug (σ : sS) (k : Nat) (v : Int) (a j : Nat) : sf (ug σ k v) a j = sf σ a j := rfl
theorem sf_uf (σ : sS) (n k : Nat) (v : Int) (a j : Nat) : sf (uf σ n k v) a j = if a = n ∧ j = k then v else sf σ a j := rfl
theorem sf_ur (σ : sS) (n k : Nat) (L : List Int) (a j : Nat) : sf (ur σ n k L) a j = sf σ a j := rfl
theorem sr_ug (σ : sS) (k : Nat) (v : Int) (a j : Nat) : sr (ug σ k v) a j = sr σ a j := rfl
theorem sr_uf (σ : sS) (n k : Nat) (v : Int) (a j : Nat) : sr (uf σ n k v) a j = sr σ a j := rfl
theorem sr_ur (σ : sS) (n k : Nat) (L : List Int) (a j : Nat) : sr (ur σ n k L) a j = if a = n ∧ j = k then L else sr σ a j := rfl
def sN (σ : sS) : Nat := (sg σ 0).toNat
def nin (k : Int) : Nat := if k = 0 then 0 else if k = 4 then 2 else 1
/-- channel i of node t comes from n -/
def fed (σ : sS) (n t i : Nat) : Bool := decide (n < t ∧ t < sN σ ∧ i < nin (sf σ t 0) ∧ sf σ t (1 + i) = (n : Int))
def sSend (σ : sS) (n : Nat) (v : Int) : sS := (σ.1, σ.2.1, fun t i => if fed σ n t i = true then sr σ t i ++ [v] else sr σ t i)
def sRoom (σ : sS) (n : Nat) : Bool := (List.range (sN σ)).all fun t => (List.range 2).all fun i => !(fed σ n t i) || decide ((sr σ t i).length < 6)
def sSource (σ : sS) (n : Nat) : sS :=
  if sg σ 1 % sf σ n 1 = 0 ∧ sRoom σ n = true then
    if sf σ n 5 = 1 then uf (uf (uf (uf (sSend σ n 100) n 5 0) n 19 (sf σ n 4)) n 24 1) n 9 1
    else if sf σ n 4 < sg σ 2 then uf (sSend σ n ((sf σ n 3 * 7 + sf σ n 4 * sf σ n 4 + sf σ n 4 * 3) % 100)) n 4 (sf σ n 4 + 1)
    else σ
  else σ
def sCan (σ : sS) (n : Nat) (i : Int) : Bool := decide ((sr σ n i.toNat).length ≠ 0 ∧ sf σ n 7 ≠ i + 1)
def sIn (σ : sS) (n : Nat) : Int :=
  if sf σ n 0 = 4 then (if sCan σ n (sf σ n 6) = true then sf σ n 6 else if sCan σ n (1 - sf σ n 6) = true then 1 - sf σ n 6 else -1)
  else if (sr σ n 0).length = 0 then -1 else 0
def sItem (σ : sS) (n i : Nat) (v : Int) : sS :=
  if sf σ n 0 = 1 then sSend σ n ((v + sf σ n 3) % 100)
  else if sf σ n 0 = 2 then (if v % sf σ n 3 = 0 then σ else sSend σ n v)
  else if sf σ n 0 = 3 then sSend (uf σ n (10 + (v % 4).toNat) (sf σ n (10 + (v % 4).toNat) + v)) n ((sf σ n (10 + (v % 4).toNat) + v) % 100)
  else if sf σ n 0 = 4 then sSend (if sf σ n 8 = (i : Int) + 1 then ur σ n 2 (sr σ n 2 ++ [v]) else σ) n v
  else ur σ n 4 (sr σ n 4 ++ [v])
def sPart (σ : sS) (n : Nat) (num inn : Int) : sS := uf (uf (uf σ n 9 1) n 24 num) n 25 inn
def sOthers (σ : sS) (n : Nat) : Int := (if sf σ n 10 = sf σ n 15 then 0 else 1) + (if sf σ n 11 = sf σ n 16 then 0 else 1) + (if sf σ n 12 = sf σ n 17 then 0 else 1) + (if sf σ n 13 = sf σ n 18 then 0 else 1)
def sCopy (σ : sS) (n : Nat) : sS := uf (uf (uf (uf σ n 20 (sf σ n 10)) n 21 (sf σ n 11)) n 22 (sf σ n 12)) n 23 (sf σ n 13)
def sBarrier (σ : sS) (n i : Nat) : sS :=
  if sf σ n 0 = 4 then
    if sg σ 5 = 1 then
      if sf σ n 7 = 0 then uf σ n 7 ((i : Int) + 1) else sPart (sSend (uf σ n 7 0) n 100) n 0 0
    else if sf σ n 8 = 0 then ur (uf (sSend σ n 100) n 8 (2 - (i : Int))) n 2 []
    else sPart (uf σ n 8 0) n ((sr σ n 2).length : Int) (sf σ n 8)
  else if sf σ n 0 = 5 then sPart (ur (ur σ n 5 (sr σ n 5 ++ sr σ n 4)) n 4 []) n 0 0
  else sPart (sCopy (sSend σ n 100) n) n (sOthers σ n) 0
/-- what is taken from in i is gone, the turn is another -/
def sTake (σ : sS) (n i : Nat) : sS := uf (ur σ n i ((sr σ n i).drop 1)) n 6 (if sf σ n 0 = 4 then 1 - (i : Int) else 0)
def sTaker (σ : sS) (n : Nat) : sS :=
  if sRoom σ n = true ∧ sIn σ n ≠ -1 then
    (if (sr σ n (sIn σ n).toNat).getD 0 0 = 100 then sBarrier (sTake σ n (sIn σ n).toNat) n (sIn σ n).toNat else sItem (sTake σ n (sIn σ n).toNat) n (sIn σ n).toNat ((sr σ n (sIn σ n).toNat).getD 0 0))
  else σ
def sAct (σ : sS) (n : Nat) : sS := if sf σ n 0 = 0 then sSource σ n else sTaker σ n
def sActs : Nat → sS → sS
  | 0, σ => σ
  | k + 1, σ => sAct (sActs k σ) k
def sAll (σ : sS) : Bool := (List.range (sN σ)).all fun n => decide (sf σ n 9 = 1)
def sumN (f : Nat → Int) : Nat → Int
  | 0 => 0
  | k + 1 => sumN f k + f k
/-- node n's part of a snapshot that became whole -/
def sSettle (σ : sS) (n : Nat) : sS := (fun k => if k = 6 then sg σ 6 + sf σ n 24 else if k = 8 then sg σ 8 + (((sr σ n 5).length - (100 - (sr σ n 6).length) : Nat) : Int) else sg σ k,
  fun a k => if a = n then (if k = 14 then sf σ n 19 else if k = 15 then sf σ n 20 else if k = 16 then sf σ n 21 else if k = 17 then sf σ n 22 else if k = 18 then sf σ n 23 else if k = 26 then sf σ n 25 else if k = 27 then sf σ n 24 else if k = 9 then 0 else sf σ n k) else sf σ a k,
  fun a k => if a = n then (if k = 3 then sr σ n 2 else if k = 6 then sr σ n 6 ++ (sr σ n 5).take (100 - (sr σ n 6).length) else if k = 5 then [] else sr σ n k) else sr σ a k)
def sSettles : Nat → sS → sS
  | 0, σ => σ
  | k + 1, σ => sSettle (sSettles k σ) k
def sWhole (σ : sS) : sS := sSettles (sN σ) (ug (ug (ug σ 3 (sg σ 3 + 1)) 4 0) 6 0)
def sStep (σ : sS) : sS := ug (if sg σ 4 = 1 ∧ sAll (sActs (sN σ) σ) = true then sWhole (sActs (sN σ) σ) else sActs (sN σ) σ) 1 (sg σ 1 + 1)
def sSteps : Nat → sS → sS
  | 0, σ => σ
  | k + 1, σ => sStep (sSteps k σ)
def sMarks (σ : sS) : sS := ((ug σ 4 1).1, fun a k => if a < sN σ then (if k = 5 then (if sf σ a 0 = 0 then 1 else 0) else if k = 9 then 0 else sf σ a k) else sf σ a k, σ.2.2)
def sFails (σ : sS) : sS := (fun k => if k = 4 then 0 else if k = 7 then sg σ 7 + 1 else sg σ k,
  fun a k => if a < sN σ then (if k = 5 ∨ k = 6 ∨ k = 7 ∨ k = 8 ∨ k = 9 then 0 else if k = 4 then sf σ a 14 else if k = 10 then sf σ a 15 else if k = 11 then sf σ a 16 else if k = 12 then sf σ a 17 else if k = 13 then sf σ a 18 else sf σ a k) else sf σ a k,
  fun a k => if a < sN σ then (if k = 0 then (if sf σ a 26 = 1 then sr σ a 3 else []) else if k = 1 then (if sf σ a 26 = 2 then sr σ a 3 else []) else if k = 4 ∨ k = 5 then [] else sr σ a k) else sr σ a k)
def sNode (σ : sS) (kind a b k : Int) : sS := ug (uf (uf (uf (uf σ (sN σ) 0 kind) (sN σ) 1 a) (sN σ) 2 b) (sN σ) 3 k) 0 (sg σ 0 + 1)
def sNew : sS := (fun k => if k = 2 then 20 else if k = 5 then 1 else 0, fun _ _ => 0, fun _ _ => [])
/-- whether a node can come: BAD, NO, FULL or 0 -/
def isNd (σ : sS) (n : Int) : Bool := decide (0 ≤ n ∧ n < sg σ 0)
def canF (σ : sS) (n : Int) : Bool := isNd σ n && decide (sf σ n.toNat 0 ≠ 5)
def isTd (σ : sS) (kind a b k : Int) : Bool :=
  if kind = 0 then decide (1 ≤ a ∧ a ≤ 9 ∧ b = -1 ∧ 0 ≤ k ∧ k ≤ 99)
  else if kind = 1 then canF σ a && decide (b = -1 ∧ 0 ≤ k ∧ k ≤ 99)
  else if kind = 2 then canF σ a && decide (b = -1 ∧ 1 ≤ k ∧ k ≤ 99)
  else if kind = 4 then canF σ a && (canF σ b && decide (k = 0))
  else if kind = 3 ∨ kind = 5 then canF σ a && decide (b = -1 ∧ k = 0)
  else false
def sJoins (σ : sS) : Int := sumN (fun n => if sf σ n 0 = 4 then 1 else 0) (sN σ)
def whyN (σ : sS) (kind a b k : Int) : Int :=
  if isTd σ kind a b k = true then (if sg σ 1 = 0 then (if sg σ 0 = 8 ∨ (kind = 4 ∧ sJoins σ = 2) then -4 else 0) else -3) else -2
