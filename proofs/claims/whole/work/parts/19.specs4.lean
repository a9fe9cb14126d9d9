/-! what the public methods answer -/
def sAbout (a0 a1 a2 a3 a4 a5 a6 w : Int32) : Int32 := if w = 0 then a0 else if w = 1 then a1 else if w = 2 then a2 else if w = 3 then a3 else if w = 4 then a4 else if w = 5 then a5 else if w = 6 then a6 else -2
def sSel4 (a0 a1 a2 a3 w : Int32) : Int32 := if w = 0 then a0 else if w = 1 then a1 else if w = 2 then a2 else if w = 3 then a3 else -2
def sSel5 (a0 a1 a2 a3 a4 w : Int32) : Int32 := if w = 0 then a0 else if w = 1 then a1 else if w = 2 then a2 else if w = 3 then a3 else if w = 4 then a4 else -2
def sReach (G : Nat → Int32 → Int32 → Int32) (r0 he : Int32) : Nat → Int32
  | 0 => r0
  | t + 1 => sSpread (G t) (sReach G r0 he t) he 10
def sFirstFrom (p : Nat → Bool) : Nat → Nat → Int32
  | 0, _ => -9
  | n + 1, t => if p t then nI t else sFirstFrom p n (t + 1)
def sTeach (kn : Int32) (ok : Nat → Bool) : Nat → Int32 × Int32
  | 0 => (-9, 6)
  | t + 1 => if nI t &&& kn = 0 ∧ sBC (nI t) < (sTeach kn ok t).2 ∧ ok t = true then (nI t, sBC (nI t)) else sTeach kn ok t
def sJudge (nm na : Nat) (l0 l1 l2 co : Nat → Int32) (U rw : Nat) : Nat → Nat → SV → Int32 × SV
  | 0, _, v => (-9, v)
  | n + 1, j, v =>
    if (sDone nm na l0 l1 l2 co v (nI (rw / (U / 100 ^ j) % 100 / 10)) (nI (rw / (U / 100 ^ j) % 100 % 10))).1 then
      sJudge nm na l0 l1 l2 co U rw n (j + 1) (sDone nm na l0 l1 l2 co v (nI (rw / (U / 100 ^ j) % 100 / 10)) (nI (rw / (U / 100 ^ j) % 100 % 10))).2
    else (nI j, (sDone nm na l0 l1 l2 co v (nI (rw / (U / 100 ^ j) % 100 / 10)) (nI (rw / (U / 100 ^ j) % 100 % 10))).2)
/-- how many, and the first one, of n things -/
def sMany (p : Nat → Bool) (val : Nat → Int32) : Nat → Int32 × Int32
  | 0 => (0, -9)
  | t + 1 => if p t then ((sMany p val t).1 + 1, if (sMany p val t).1 = 0 then val t else (sMany p val t).2) else sMany p val t
def sSeed (x : Int64) : Int64 := x * 6364136223846793005 + 1442695040888963407
def sLot (x : Int64) : Int32 := ((x.toUInt64 >>> ((33 : Int32).toInt64.toUInt64 &&& Int64.toUInt64 63)).toInt64 - (x.toUInt64 >>> ((33 : Int32).toInt64.toUInt64 &&& Int64.toUInt64 63)).toInt64 / 12 * 12).toInt32
def sYears (nm na : Nat) (l0 l1 l2 co : Nat → Int32) (sd : Int64) (v : SV) : Nat → Int64 × SV
  | 0 => (sd, v)
  | n + 1 => (sSeed (sYears nm na l0 l1 l2 co sd v n).1, sLive nm na l0 l1 l2 co (sYears nm na l0 l1 l2 co sd v n).2 (sLot (sSeed (sYears nm na l0 l1 l2 co sd v n).1) / 2) (sLot (sSeed (sYears nm na l0 l1 l2 co sd v n).1) - sLot (sSeed (sYears nm na l0 l1 l2 co sd v n).1) / 2 * 2))
def sTal (t : Nat → Int32) : Nat → Nat → Int32
  | 0 => fun i => if i = 0 then 1 else 0
  | n + 1 => sTally (sTal t n) (t n)
def sumFrom (f : Nat → Int32) (m : Nat) : Nat → Int32
  | 0 => 0
  | n + 1 => sumFrom f m n + f (m + n)
theorem isN_yesLe {n : Nat} {m : Int32} (hn : n < 2 ^ 30) (h : ¬ m < 0) (h2 : m ≤ nI n) : isN (n + 1) m = true := by
  refine isN_yes h ?_
  rw [i32_nle]
  simp only [Int32.lt_iff_toInt_lt, Int32.le_iff_toInt_le] at h2 ⊢
  rw [nI_toInt (by omega)] at h2 ⊢
  omega
theorem sAll_nI : ∀ {na : Nat}, na ≤ 5 → sAll na = nI (2 ^ na - 1) := by
  intro na h
  rcases (show na = 0 ∨ na = 1 ∨ na = 2 ∨ na = 3 ∨ na = 4 ∨ na = 5 by omega) with rfl | rfl | rfl | rfl | rfl | rfl <;> decide
theorem pow5 {na : Nat} (h : na ≤ 5) : 1 ≤ 2 ^ na ∧ 2 ^ na ≤ 32 := by
  rcases (show na = 0 ∨ na = 1 ∨ na = 2 ∨ na = 3 ∨ na = 4 ∨ na = 5 by omega) with rfl | rfl | rfl | rfl | rfl | rfl <;> decide
theorem jp {nn : Nat} (h : 1 ≤ nn) (h2 : nn ≤ 4) : 1 ≤ 100 ^ (nn - 1) ∧ 100 ^ (nn - 1) ≤ 1000000 := by
  rcases (show nn = 1 ∨ nn = 2 ∨ nn = 3 ∨ nn = 4 by omega) with rfl | rfl | rfl | rfl <;> decide
theorem js {j : Nat} (h : 1 ≤ j) : nI (100 ^ (j + 1 - 1)) = nI (100 ^ (j - 1)) * 100 := by
  obtain ⟨i, rfl⟩ : ∃ i, j = i + 1 := ⟨j - 1, by omega⟩
  show nI (100 ^ (i + 1)) = nI (100 ^ i) * 100
  rw [Nat.pow_succ]
  exact (nI_mulE rfl rfl).symm
theorem jU {nn j : Nat} (h : j < nn) : 0 < 100 ^ (nn - 1) / 100 ^ j :=
  Nat.div_pos (Nat.pow_le_pow_right (by decide) (by omega)) (Nat.pow_pos (by decide))
theorem jV {U j : Nat} (h : U < 2 ^ 30) : nI (U / 100 ^ (j + 1)) = nI (U / 100 ^ j) / 100 := by
  rw [Nat.pow_succ, ← Nat.div_div_eq_div_mul]
  have : U / 100 ^ j ≤ U := Nat.div_le_self _ _
  exact (nI_divE (a := U / 100 ^ j) (b := 100) rfl rfl (by omega) (by decide) (by decide)).symm
theorem sJudge_s (nm na : Nat) (l0 l1 l2 co : Nat → Int32) (U rw n j : Nat) (v : SV) : sJudge nm na l0 l1 l2 co U rw (n + 1) j v = if (sDone nm na l0 l1 l2 co v (nI (rw / (U / 100 ^ j) % 100 / 10)) (nI (rw / (U / 100 ^ j) % 100 % 10))).1 then
      sJudge nm na l0 l1 l2 co U rw n (j + 1) (sDone nm na l0 l1 l2 co v (nI (rw / (U / 100 ^ j) % 100 / 10)) (nI (rw / (U / 100 ^ j) % 100 % 10))).2
    else (nI j, (sDone nm na l0 l1 l2 co v (nI (rw / (U / 100 ^ j) % 100 / 10)) (nI (rw / (U / 100 ^ j) % 100 % 10))).2) := rfl
theorem sFirstFrom_s (p : Nat → Bool) (n t : Nat) : sFirstFrom p (n + 1) t = if p t then nI t else sFirstFrom p n (t + 1) := rfl
theorem pw10 {n : Nat} (h : n ≤ 5) : 10 ^ n ≤ 100000 := by
  rcases (show n = 0 ∨ n = 1 ∨ n = 2 ∨ n = 3 ∨ n = 4 ∨ n = 5 by omega) with rfl | rfl | rfl | rfl | rfl | rfl <;> decide
