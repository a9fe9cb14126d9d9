/-! ways, lessons, doings, shares, chances, as the reference has them -/
/-- one alone at stone s, at an hour: the trial page -/
def mAt (f : Nat → Int32) (k : Nat) (s h : Int32) : Nat → Int32 := fun j => if j = k then s else if j = 15 then h else f j
def mLay1 (F : Nat → Int32 → Int32 → Bool) (t s : Nat) (way : Int32) (h : Nat → Int32) : Nat → Int32 :=
  if h s = -9 then h else if nI t < h s then h else if mTo (nI s) way = -9 then h else if ¬ h (mTo (nI s) way).toNatClampNeg = -9 then h else if F t (nI s) way then h else upd h (mTo (nI s) way).toNatClampNeg (nI t + 1)
def mLayS (F : Nat → Int32 → Int32 → Bool) (t : Nat) (h : Nat → Int32) : Nat → Nat → Int32
  | 0 => h
  | s + 1 => mLay1 F t s 1 (mLay1 F t s 0 (mLayS F t h s))
def mLayT (F : Nat → Int32 → Int32 → Bool) (h : Nat → Int32) : Nat → Nat → Int32
  | 0 => h
  | t + 1 => mLayS F t (mLayT F h t) 10
def mH0 (s : Int32) : Nat → Int32 := fun j => if nI j = s then 0 else -9
def mHold1 (to ff kn : Int32) : Bool := decide (to = -9) || (decide (ff = 0) || !decide (ff &&& kn = 0))
def mUp (f : Nat → Int32) (k : Nat) (x : Int32) : Nat → Int32 := fun j => if j = 10 + k then f (10 + k) ||| x else f j
def mTeach (na : Nat) (kn : Int32) (ok : Nat → Bool) : Nat → Int32
  | 0 => -9
  | t + 1 => if nI t &&& kn = 0 ∧ (mTeach na kn ok t = -9 ∨ sMn (nI t) < sMn (mTeach na kn ok t)) ∧ ok t = true then nI t else mTeach na kn ok t
def mTeachQ (na : Nat) (kn : Int32) (ok : Nat → Bool) (g : Nat → Nat → Int32) (q : Nat → Int32) : Nat → Nat → Int32
  | 0 => q
  | t + 1 => if nI t &&& kn = 0 ∧ (mTeach na kn ok t = -9 ∨ sMn (nI t) < sMn (mTeach na kn ok t)) then g t else mTeachQ na kn ok g q t
def mPow (a : Int32) : Nat → Int32
  | 0 => 1
  | n + 1 => mPow a n * a
def mWays (n : Nat) : Int32 := if n = 0 then 1 else if n = 1 then 1 else if n = 2 then 2 else if n = 3 then 6 else if n = 4 then 24 else 120
def mBar1 (to ff some : Int32) : Int32 := if to = -9 then 0 else if ff &&& some = 0 then 0 else 1
