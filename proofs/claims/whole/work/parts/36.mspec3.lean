/-! the reference's shares, sightings, councils, chances -/
def mWaysN (n : Nat) : Nat := if n = 0 then 1 else if n = 1 then 1 else if n = 2 then 2 else if n = 3 then 6 else if n = 4 then 24 else 120
def pcN (t : Nat) : Nat := (sMn (nI t)).toNatClampNeg
theorem pcN_nI : ∀ t, t < 32 → sMn (nI t) = nI (pcN t) ∧ pcN t ≤ 5 := by decide +kernel
theorem pcN_bit : ∀ n, n ≤ 5 → ∀ t, t < 2 ^ n → pcN t ≤ n := by decide +kernel
theorem pcN_out : ∀ n, n ≤ 5 → ∀ t, t < 2 ^ n → ∀ a, a < n → hbit (nI t) (nI a) = false → pcN t ≤ n - 1 := by decide +kernel
theorem or_nI : ∀ n, n ≤ 5 → ∀ t, t < 2 ^ n → ∀ a, a < n → nI t ||| ((1 : Int32) <<< (nI a &&& 31)) = nI (t ||| 2 ^ a) ∧ t ||| 2 ^ a < 2 ^ n := by decide +kernel
def mStep (nm na : Nat) (fw fs fv fc f : Nat → Int32) (some : Int32) (o : Nat) : Int32 := mBar1 (mTo (f o) 0) (mFF nm na fw fs fv fc f o 0) some + mBar1 (mTo (f o) 1) (mFF nm na fw fs fv fc f o 1) some
def mBarred (nm na : Nat) (fw fs fv fc f : Nat → Int32) (some : Int32) : Int32 := sumI (mStep nm na fw fs fv fc f some) nm
def mShare (W : Nat → Int32) (na a : Nat) (t : Nat) : Int32 := if hbit (nI t) (nI a) then 0 else mWays (pcN t) * mWays (na - 1 - pcN t) * (W (t ||| 2 ^ a) - W t)
def mAg (g0 g1 g2 g3 g4 : Nat → Int32) (stone so va : Int32) (i : Nat) : Bool := !decide (g0 i = stone) || decide (bI (mBar so va (g1 i) (g2 i) (g3 i) 0) = (if g4 i = 1 then 1 else 0))
def mWorth1 (to : Int32) (b : Bool) : Int32 := if to = -9 then 0 else if b then -1 else 1
def mGain (alone own its : Int32) : Int32 := if own = 0 then (if its = 1 then -1 else 0) else (if its = 1 then alone / 2 else alone)
def mRest (alone a b : Int32) : Bool := !decide (mGain alone a b < mGain alone (1 - a) b) && !decide (mGain alone b a < mGain alone (1 - b) a)
def mMask (f : Nat → Int32) (some : Int32) (n : Nat) : Nat → Int32 := fun j => if 10 ≤ j ∧ j < 10 + n then (if hbit some (nI (j - 10)) then 0 else f j) else f j
theorem mMask_0 (f : Nat → Int32) (some : Int32) : mMask f some 0 = f := by funext j; simp [mMask]; omega
theorem mMask_s (f : Nat → Int32) (some : Int32) (n : Nat) : upd (mMask f some n) (10 + n) (if hbit some (nI n) then 0 else f (10 + n)) = mMask f some (n + 1) := by
  funext j
  by_cases h : j = 10 + n
  · subst h
    simp [mMask, upd]
  · have h2 : (10 ≤ j ∧ j < 10 + (n + 1)) ↔ (10 ≤ j ∧ j < 10 + n) := by omega
    simp [mMask, upd, h, h2]
def mBalk1 (nm na : Nat) (fw fs fv fc f : Nat → Int32) (way some : Int32) (o : Nat) : Int32 := if mTo (mMask f some (o + 1) o) way = -9 then 0 else if mBk nm na fw fs fv fc (mMask f some (o + 1)) o way then 1 else 0
def mForget (cnt : Nat → Int32) (m x : Int32) (nm : Nat) (t : Nat) : Int32 := if cnt t < m then 0 else mPow x (pcN t) * mPow (10 - x) (nm - pcN t)
def mLive (nm na : Nat) (fw fs fv fc P : Nat → Int32) (t : Nat) : Nat → Int32 :=
  if t < 10 ∧ t / 2 < nm ∧ ¬ mTo (P (t / 2)) (nI (t % 2)) = -9 ∧ mBk nm na fw fs fv fc P (t / 2) (nI (t % 2)) = false then mGoF P (t / 2) (mTo (P (t / 2)) (nI (t % 2))) (mFF nm na fw fs fv fc P (t / 2) (nI (t % 2))) else upd P 15 (P 15 + 1)
def mYears (nm na : Nat) (fw fs fv fc : Nat → Int32) (sd : Int64) (P : Nat → Int32) : Nat → Int64 × (Nat → Int32)
  | 0 => (sd, P)
  | n + 1 => (sSeed (mYears nm na fw fs fv fc sd P n).1, mLive nm na fw fs fv fc (mYears nm na fw fs fv fc sd P n).2 (sLot (sSeed (mYears nm na fw fs fv fc sd P n).1)).toNatClampNeg)
theorem sLot_nI (x : Int64) : ∃ t, t < 12 ∧ sLot x = nI t ∧ (sLot x).toNatClampNeg = t := by
  have key : ∀ y : Int64, 0 ≤ y.toInt → ∃ t, t < 12 ∧ (y - y / 12 * 12).toInt32 = nI t ∧ (y - y / 12 * 12).toInt32.toNatClampNeg = t := by
    intro y hy
    obtain ⟨k, hk, rfl⟩ := pk_lOf (x := y) (fun h => by
      simp only [Int64.lt_iff_toInt_lt] at h
      have : (0 : Int64).toInt = 0 := rfl
      omega)
    have e : lN k - lN k / 12 * 12 = lN (k % 12) := pk_lRem (a := k) (b := 12) hk (by decide) (by decide)
    have hm : k % 12 < 12 := Nat.mod_lt _ (by decide)
    refine ⟨k % 12, hm, ?_, ?_⟩
    · rw [e]; exact lN_i _
    · rw [e, lN_i]; exact nI_clamp (by omega)
  refine key _ ?_
  have h1 : ((33 : Int32).toInt64.toUInt64 &&& Int64.toUInt64 63) = (33 : UInt64) := by decide
  rw [h1]
  show 0 ≤ (x.toUInt64 >>> (33 : UInt64)).toInt64.toInt
  have h2 : (x.toUInt64 >>> (33 : UInt64)).toInt64.toBitVec = x.toUInt64.toBitVec >>> 33 := by simp [UInt64.toBitVec_shiftRight]
  have h3 : (x.toUInt64 >>> (33 : UInt64)).toInt64.toInt = (x.toUInt64.toBitVec >>> 33).toInt := by rw [← h2]; rfl
  rw [h3, BitVec.toInt_ushiftRight_of_lt (by decide)]
  exact Int.natCast_nonneg _
