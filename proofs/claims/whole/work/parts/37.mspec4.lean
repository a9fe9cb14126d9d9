/-! counts of a many, step by step; ways as small numbers -/
theorem sMany_1 (p : Nat → Bool) (val : Nat → Int32) (t : Nat) : (sMany p val (t + 1)).1 = (sMany p val t).1 + (if p t = true then 1 else 0) := by
  by_cases h : p t = true
  · simp [sMany, h]
  · have h2 : p t = false := by simpa using h
    simp [sMany, h2]
theorem sMany_2 (p : Nat → Bool) (val : Nat → Int32) (t : Nat) : (sMany p val (t + 1)).2 = if p t = true ∧ (sMany p val t).1 = 0 then val t else (sMany p val t).2 := by
  by_cases h : p t = true
  · simp [sMany, h]
  · have h2 : p t = false := by simpa using h
    simp [sMany, h2]
theorem mWays_nI (n : Nat) : mWays n = nI (mWaysN n) := by
  by_cases h0 : n = 0
  · subst h0; rfl
  by_cases h1 : n = 1
  · subst h1; rfl
  by_cases h2 : n = 2
  · subst h2; rfl
  by_cases h3 : n = 3
  · subst h3; rfl
  by_cases h4 : n = 4
  · subst h4; rfl
  simp only [mWays, mWaysN, h0, h1, h2, h3, h4, if_false]
  rfl
theorem mWaysN_b (n : Nat) : 0 < mWaysN n ∧ mWaysN n < 2 ^ 31 := by
  unfold mWaysN
  repeat' split
  all_goals decide
theorem mLive_t {nm na : Nat} {fw fs fv fc P : Nat → Int32} {t : Nat} (h1 : t < 10) (h2 : t / 2 < nm) (h3 : ¬ mTo (P (t / 2)) (nI (t % 2)) = -9) (h4 : mBk nm na fw fs fv fc P (t / 2) (nI (t % 2)) = false) : mLive nm na fw fs fv fc P t = mGoF P (t / 2) (mTo (P (t / 2)) (nI (t % 2))) (mFF nm na fw fs fv fc P (t / 2) (nI (t % 2))) := by
  rw [mLive, if_pos ⟨h1, h2, h3, h4⟩]
theorem mLive_f {nm na : Nat} {fw fs fv fc P : Nat → Int32} {t : Nat} (h : ¬ (t < 10 ∧ t / 2 < nm ∧ ¬ mTo (P (t / 2)) (nI (t % 2)) = -9 ∧ mBk nm na fw fs fv fc P (t / 2) (nI (t % 2)) = false)) : mLive nm na fw fs fv fc P t = upd P 15 (P 15 + 1) := by
  rw [mLive, if_neg h]
theorem mYears_s (nm na : Nat) (fw fs fv fc : Nat → Int32) (sd : Int64) (P : Nat → Int32) (n : Nat) : mYears nm na fw fs fv fc sd P (n + 1) = (sSeed (mYears nm na fw fs fv fc sd P n).1, mLive nm na fw fs fv fc (mYears nm na fw fs fv fc sd P n).2 (sLot (sSeed (mYears nm na fw fs fv fc sd P n).1)).toNatClampNeg) := rfl
