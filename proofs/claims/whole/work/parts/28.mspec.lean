/-! what the reference's methods answer -/
theorem cmp_lt {x y : Int64} : lg_cmp x y < 0 ↔ x < y := by
  unfold lg_cmp
  simp only [gt_iff_lt, Int64.lt_iff_toInt_lt, ← Int64.toInt_inj]
  by_cases h1 : y.toInt < x.toInt
  · rw [if_pos h1]; constructor
    · intro h; exact absurd h (by decide)
    · intro h; omega
  · rw [if_neg h1]
    by_cases h2 : x.toInt = y.toInt
    · rw [if_pos h2]; constructor
      · intro h; exact absurd h (by decide)
      · intro h; omega
    · rw [if_neg h2]; constructor
      · intro _; omega
      · intro _; decide
theorem cmp_gt {x y : Int64} : 0 < lg_cmp x y ↔ y < x := by
  unfold lg_cmp
  simp only [gt_iff_lt, Int64.lt_iff_toInt_lt, ← Int64.toInt_inj]
  by_cases h1 : y.toInt < x.toInt
  · rw [if_pos h1]; constructor
    · intro _; exact h1
    · intro _; decide
  · rw [if_neg h1]
    by_cases h2 : x.toInt = y.toInt
    · rw [if_pos h2]; constructor
      · intro h; exact absurd h (by decide)
      · intro h; omega
    · rw [if_neg h2]; constructor
      · intro h; exact absurd h (by decide)
      · intro h; omega
def isB (a b v : Int32) : Bool := !decide (v < a) && !decide (b < v)
theorem i64_lt {a b : Int32} : a.toInt64 < b.toInt64 ↔ a < b := by
  simp only [Int64.lt_iff_toInt_lt, Int32.lt_iff_toInt_lt, Int32.toInt_toInt64]
theorem isB_0 {n : Nat} {v : Int32} (hn : n < 2 ^ 30) : isB 0 (nI n - 1) v = isN n v := by
  have h1 : (nI n - 1).toInt = (n : Int) - 1 := by
    cases n with
    | zero => decide
    | succ n =>
      rw [show nI (n + 1) - 1 = nI n from nI_pred n, nI_toInt (by omega)]
      omega
  have e0 : (0 : Int32).toInt = 0 := rfl
  have en : (nI n).toInt = (n : Int) := nI_toInt (by omega)
  unfold isB isN
  simp only [Int32.lt_iff_toInt_lt, Int32.le_iff_toInt_le, h1, e0, en]
  by_cases a1 : v.toInt < 0
  · have : ¬ (0 : Int) ≤ v.toInt := by omega
    simp [a1, this]
  · have a2 : (0 : Int) ≤ v.toInt := by omega
    by_cases a3 : v.toInt < (n : Int)
    · have : ¬ (n : Int) - 1 < v.toInt := by omega
      simp [a1, a2, a3, this]
    · have : (n : Int) - 1 < v.toInt := by omega
      simp [a1, a3, this]
def mTo (st way : Int32) : Int32 := if isN 10 (st + (if way = 1 then 1 else -1)) then st + (if way = 1 then 1 else -1) else -9
def mBar (so va co ho wa ot : Int32) : Bool := if so = 0 then decide (co = va - va / 4 * 4) else if so = 1 then decide (ho - ho / 10 * 10 < va) else if so = 2 then decide (wa = (if va - va / 2 * 2 = 1 then 0 else 1)) else decide (ot < va - va / 5 * 5)
def mKnown (na : Nat) (kind shown : Int32) : Int32 := if kind = 1 then sAll na else if kind = 2 then shown &&& sAll na else if kind = 3 then (if na = 0 then 0 else (1 : Int32) <<< ((nI na - 1) &&& 31)) else (shown ||| 21) &&& sAll na
def mFF (nm na : Nat) (fw fs fv fc f : Nat → Int32) (k : Nat) (way : Int32) : Int32 := orBits (fun a => if fw a = mTo (f k) way then mBar (fs a) (fv a) (fc k) (f 15) way (if mTo (f k) way = -9 then 0 else sOth nm f k (mTo (f k) way)) else false) na
def mBk (nm na : Nat) (fw fs fv fc f : Nat → Int32) (k : Nat) (way : Int32) : Bool := !decide (mFF nm na fw fs fv fc f k way &&& mKnown na (f (5 + k)) (f (10 + k)) = 0)
def sMn (x : Int32) : Int32 := sumI (fun k => (x >>> (nI k &&& 31)) &&& 1) 10
def mGoF (f : Nat → Int32) (k : Nat) (to b : Int32) : Nat → Int32 := fun j => if j = 16 then f 16 + sMn b else if j = k then to else if j = 15 then f 15 + 1 else f j
def mNo (st way : Int32) : Int32 := if isN 2 way then (if mTo st way = -9 then -3 else 0) else -2
theorem hbit1 {x a : Int32} : (x >>> (a &&& 31)) &&& 1 = 1 ↔ hbit x a = true := by
  have key : ∀ y : Int32, y &&& 1 = 0 ∨ y &&& 1 = 1 := by
    intro y
    obtain ⟨j, hj, he⟩ := pk_andE y (m := 1) 1 rfl
    rcases (show j = 0 ∨ j = 1 by omega) with rfl | rfl
    · exact Or.inl he
    · exact Or.inr he
  unfold hbit
  rcases key (x >>> (a &&& 31)) with h | h
  · rw [h]; decide
  · rw [h]; decide
def shF (b : Nat → Int32) (j : Nat) : Nat → Int32 := fun k => if k < j then b (k + 17) else b k
theorem shF_s (b : Nat → Int32) (j : Nat) : upd (shF b j) j (shF b j (j + 17)) = shF b (j + 1) := by
  funext k
  by_cases h : k = j
  · subst h; simp [shF, upd, show ¬ k + 17 < k by omega]
  · have : k < j + 1 ↔ k < j := by omega
    simp [shF, upd, h, this]
theorem shF_0 (b : Nat → Int32) : shF b 0 = b := by funext k; simp [shF]
def ptF (b f : Nat → Int32) (a j : Nat) : Nat → Int32 := fun k => if a ≤ k ∧ k < a + j then f (k - a) else b k
theorem ptF_0 (b f : Nat → Int32) (a : Nat) : ptF b f a 0 = b := by funext k; simp [ptF]; omega
theorem ptF_s (b f : Nat → Int32) (a j : Nat) : upd (ptF b f a j) (a + j) (f j) = ptF b f a (j + 1) := by
  funext k
  by_cases h : k = a + j
  · subst h; simp [ptF, upd]
  · have h2 : (a ≤ k ∧ k < a + (j + 1)) ↔ (a ≤ k ∧ k < a + j) := by omega
    simp [ptF, upd, h, h2]
def mBook (b f : Nat → Int32) (ac : Nat) : Nat → Int32 := if ac = 14 then ptF (shF b 221) f 221 17 else ptF b f (17 * ac) 17
