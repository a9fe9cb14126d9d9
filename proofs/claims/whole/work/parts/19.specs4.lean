/-! what the public methods answer -/
def sAbout (a0 a1 a2 a3 a4 a5 a6 w : Int32) : Int32 := if w = 0 then a0 else if w = 1 then a1 else if w = 2 then a2 else if w = 3 then a3 else if w = 4 then a4 else if w = 5 then a5 else if w = 6 then a6 else -2
def sSel4 (a0 a1 a2 a3 w : Int32) : Int32 := if w = 0 then a0 else if w = 1 then a1 else if w = 2 then a2 else if w = 3 then a3 else -2
def sSel5 (a0 a1 a2 a3 a4 w : Int32) : Int32 := if w = 0 then a0 else if w = 1 then a1 else if w = 2 then a2 else if w = 3 then a3 else if w = 4 then a4 else -2
def sReach (G : Nat → Int32 → Int32 → Int32) (r0 he : Int32) : Nat → Int32
  | 0 => r0
  | t + 1 => sSpread (G t) (sReach G r0 he t) he 10
def sFirstFrom (p : Nat → Bool) : Nat → Nat → Int32
  | 0, _ => -9
  | n + 1, t => if p t then nI t else sFirstFrom p n (t + 1)
def sTeach (kn : Int32) (ok : Nat → Bool) : Nat → Int32 × Int32
  | 0 => (-9, 6)
  | t + 1 => if nI t &&& kn = 0 ∧ sBC (nI t) < (sTeach kn ok t).2 ∧ ok t = true then (nI t, sBC (nI t)) else sTeach kn ok t
def sJudge (nm na : Nat) (l0 l1 l2 co : Nat → Int32) (U rw : Nat) : Nat → Nat → SV → Int32 × SV
  | 0, _, v => (-9, v)
  | n + 1, j, v =>
    if (sDone nm na l0 l1 l2 co v (nI (rw / (U / 100 ^ j) % 100 / 10)) (nI (rw / (U / 100 ^ j) % 100 % 10))).1 then
      sJudge nm na l0 l1 l2 co U rw n (j + 1) (sDone nm na l0 l1 l2 co v (nI (rw / (U / 100 ^ j) % 100 / 10)) (nI (rw / (U / 100 ^ j) % 100 % 10))).2
    else (nI j, (sDone nm na l0 l1 l2 co v (nI (rw / (U / 100 ^ j) % 100 / 10)) (nI (rw / (U / 100 ^ j) % 100 % 10))).2)
/-- how many, and the first one, of n things -/
def sMany (p : Nat → Bool) (val : Nat → Int32) : Nat → Int32 × Int32
  | 0 => (0, -9)
  | t + 1 => if p t then ((sMany p val t).1 + 1, if (sMany p val t).1 = 0 then val t else (sMany p val t).2) else sMany p val t
def sSeed (x : Int64) : Int64 := x * 6364136223846793005 + 1442695040888963407
def sLot (x : Int64) : Int32 := ((x.toUInt64 >>> ((33 : Int32).toInt64.toUInt64 &&& Int64.toUInt64 63)).toInt64 - (x.toUInt64 >>> ((33 : Int32).toInt64.toUInt64 &&& Int64.toUInt64 63)).toInt64 / 12 * 12).toInt32
def sYears (nm na : Nat) (l0 l1 l2 co : Nat → Int32) (sd : Int64) (v : SV) : Nat → Int64 × SV
  | 0 => (sd, v)
  | n + 1 => (sSeed (sYears nm na l0 l1 l2 co sd v n).1, sLive nm na l0 l1 l2 co (sYears nm na l0 l1 l2 co sd v n).2 (sLot (sSeed (sYears nm na l0 l1 l2 co sd v n).1) / 2) (sLot (sSeed (sYears nm na l0 l1 l2 co sd v n).1) - sLot (sSeed (sYears nm na l0 l1 l2 co sd v n).1) / 2 * 2))
def sTal (t : Nat → Int32) : Nat → Nat → Int32
  | 0 => fun i => if i = 0 then 1 else 0
  | n + 1 => sTally (sTal t n) (t n)
def sumFrom (f : Nat → Int32) (m : Nat) : Nat → Int32
  | 0 => 0
  | n + 1 => sumFrom f m n + f (m + n)
