/-! doings, ways, councils, chances: plain functions -/
def ushr (x y : Int32) : Int32 := (x.toUInt32 >>> (y.toUInt32 &&& Int32.toUInt32 31)).toInt32
def sBC1 (x : Int32) : Int32 := x - (ushr x 1 &&& 1431655765)
def sBC2 (x : Int32) : Int32 := (x &&& 858993459) + (ushr x 2 &&& 858993459)
def sBC3 (x : Int32) : Int32 := (x + ushr x 4) &&& 252645135
def sBC4 (x : Int32) : Int32 := x + ushr x 8
def sBC5 (x : Int32) : Int32 := x + ushr x 16
def sBC (x : Int32) : Int32 := sBC5 (sBC4 (sBC3 (sBC2 (sBC1 x)))) &&& 63
def goV (b : Int32) (v : SV) (k : Nat) (way : Int32) : SV := (upd v.1 k (sNext (v.1 k) way), v.2.1, v.2.2.1, v.2.2.2.1 + 1, v.2.2.2.2 + sBC b)
def hourV (v : SV) : SV := (v.1, v.2.1, v.2.2.1, v.2.2.2.1 + 1, v.2.2.2.2)
def sDone (nm na : Nat) (l0 l1 l2 co : Nat → Int32) (v : SV) (f g : Int32) : Bool × SV :=
  if f = 0 then (decide (g = 0), hourV v)
  else if ¬ 5 < f then
    (if isN 2 g && (isN nm (f - 1) && decide (sFF nm na l0 l1 l2 co v.1 (f - 1).toNatClampNeg (v.1 (f - 1).toNatClampNeg) g v.2.2.2.1 = 0)) then (true, goV 0 v (f - 1).toNatClampNeg g) else (false, v))
  else if isN nm g = false then (false, v)
  else if f = 6 then (!decide (v.2.1 g.toNatClampNeg = 3), (v.1, upd v.2.1 g.toNatClampNeg 3, v.2.2))
  else (decide (f = 7) && !decide (v.2.2.1 g.toNatClampNeg = 0), (v.1, v.2.1, upd v.2.2.1 g.toNatClampNeg 0, v.2.2.2))
def sLive (nm na : Nat) (l0 l1 l2 co : Nat → Int32) (v : SV) (m way : Int32) : SV :=
  if isN nm m then
    (if sGoes (sFF nm na l0 l1 l2 co v.1 m.toNatClampNeg (v.1 m.toNatClampNeg) way v.2.2.2.1) (sKnown na (v.2.1 m.toNatClampNeg) (v.2.2.1 m.toNatClampNeg)) then goV (sFF nm na l0 l1 l2 co v.1 m.toNatClampNeg (v.1 m.toNatClampNeg) way v.2.2.2.1) v m.toNatClampNeg way else hourV v)
  else hourV v
def sSp1 (F : Int32 → Int32 → Int32) (heeded acc : Int32) (s : Int32) (way : Int32) : Int32 := if F s way = -1 then acc else if F s way &&& heeded = 0 then acc ||| ((1 : Int32) <<< (sNext s way &&& 31)) else acc
def sSpread (F : Int32 → Int32 → Int32) (reached heeded : Int32) : Nat → Int32
  | 0 => reached
  | s + 1 => if hbit reached (nI s) then sSp1 F heeded (sSp1 F heeded (sSpread F reached heeded s) (nI s) 0) (nI s) 1 else sSpread F reached heeded s
def sKeep1 (b kn : Int32) : Bool := decide (b = -1) || (decide (b = 0) || !decide (b &&& kn = 0))
def sSixty (b a : Int32) : Int32 := if b = -1 then 0 else if hbit b a = false then 0 else if sBC b = 0 then 0 else 60 / sBC b
def sWorth1 (b kn : Int32) : Int32 := if b = -1 then 0 else if b &&& kn = 0 then 1 else -1
def sumI (f : Nat → Int32) : Nat → Int32
  | 0 => 0
  | n + 1 => sumI f n + f n
def sGain (own other worth : Int32) : Int32 := if own = 1 then (if other = 1 then worth / 2 else worth) else (if other = 1 then -1 else 0)
def sContent (own other worth : Int32) : Bool := !decide (sGain own other worth < sGain (1 - own) other worth)
def sTenths (b kn kn0 x : Int32) : Int32 := if b = -1 then 0 else (if b &&& kn = 0 then 0 else 10 - x) + (if b &&& kn0 = 0 then 0 else x)
def sTally (f : Nat → Int32) (t : Int32) : Nat → Int32
  | 0 => f 0 * (10 - t)
  | j + 1 => f (j + 1) * (10 - t) + f j * t
def rf (fa ac : Nat) : Nat := if ac = 14 then (fa + 1) % 14 else fa
def ra (ac : Nat) : Nat := if ac = 14 then 14 else ac + 1
def ri (fa ac : Nat) : Nat := if ac = 14 then fa else (fa + ac) % 14
theorem sGoes_ne {b kn : Int32} (h : sGoes b kn = true) : ¬ b = -1 := by
  intro hb
  simp [sGoes, hb] at h
