def qlet (k : Nat) (b : Int) : Int := if k = 0 then (if b = 112 then 0 else if b = 116 then 1 else if b = 105 then 2 else -1) else (if b = 114 then 0 else if b = 119 then 1 else -1)
abbrev qfits (k : Nat) (pl b : Int) : Prop := if pl = 0 then 0 ≤ qlet k b else if pl < 5 then (48 ≤ b ∧ b ≤ 57) else b = 59
def qfirst (p : Int → Bool) : Nat → Int → Int
  | 0, i => i
  | m + 1, i => if p i = true then qfirst p m (i + 1) else i
def qend (S : zM) (k : Nat) : Int := qfirst (fun i => decide (qfits k (i % 6) (S (1 + k) i))) (S 0 k).toNat 0
def qflaw (S : zM) (k : Nat) : Int := if qend S k < S 0 k then qend S k else if S 0 k = 0 ∨ S 0 k % 6 = 5 then -1 else S 0 k
def qn (S : zM) (k : Nat) : Int := if qflaw S k = -1 then (S 0 k + 1) / 6 else 0
def qfact (S : zM) (k : Nat) (i j : Int) : Int := if j = 0 then qlet k (S (1 + k) (6 * i)) else S (1 + k) (6 * i + j) - 48
abbrev wsick (wa : Int) (mi v : Int → Int) (q : Int) : Prop := v 12 + 2 * wa < mi q - v q ∨ v 12 + 2 * wa < v q - mi q
def wbad (wa : Int) (mi v : Int → Int) : Nat → Int
  | 0 => 0
  | q + 1 => wbad wa mi v q + if wsick wa mi v q then 1 else 0
def wgo (by_ d : Int) : Int := if by_ < d then by_ else if d < -by_ then -by_ else d
def wdrink (by_ wa : Int) (mi v : Int → Int) : Int → Int := fun j =>
  if 0 ≤ j ∧ j < 4 then (if wsick wa mi v j then v j else v j + wgo by_ (mi j - v j))
  else if 4 ≤ j ∧ j < 8 then (if wsick wa mi v (j - 4) then v j else if mi (j - 4) < v j then mi (j - 4) else v j)
  else if 8 ≤ j ∧ j < 12 then (if wsick wa mi v (j - 8) then v j else if v j < mi (j - 8) then mi (j - 8) else v j)
  else if j = 12 then (if wbad wa mi v 4 = 0 ∧ v 12 < 9 then v 12 + 1 else v 12)
  else if j = 13 then v 13 + wbad wa mi v 4
  else v j
def wstom (so : Int) : Int := if so = 0 then 3 else if so = 1 then 2 else 5
def wby (so : Int) : Int := if so = 0 then 1 else if so = 1 then 2 else 0
def wstart (so : Int) (fi : Int → Int) : Int → Int := fun j =>
  if 0 ≤ j ∧ j < 4 then fi j else if 4 ≤ j ∧ j < 8 then fi (j - 4) else if 8 ≤ j ∧ j < 12 then fi (j - 8) else if j = 12 then wstom so else 0
def wfeed (S g : zM) (kp : Int → Bool) (by_ m f : Int) (v : Int → Int) : Int → Int := if g 2 f = m ∧ g 3 f < qn S 1 ∧ kp f = true then wdrink by_ (qfact S 1 (g 3 f) 0) (fun q => qfact S 1 (g 3 f) (1 + q)) v else v
def wterm (S g : zM) (kp : Int → Bool) (by_ m t : Int) : Nat → (Int → Int) → Int → Int
  | 0, v => v
  | f + 1, v => if g 1 f = t then wfeed S g kp by_ m f (wterm S g kp by_ m t f v) else wterm S g kp by_ m t f v
def wseg (S g : zM) (n : Nat) (kp : Int → Bool) (by_ m : Int) (a : Int) : Nat → (Int → Int) → Int → Int
  | 0, v => v
  | k + 1, v => wterm S g kp by_ m (a + k) n (wseg S g n kp by_ m a k v)
