/-! ways, lessons, doings, shares, chances, as the reference has them -/
/-- one alone at stone s, at an hour: the trial page -/
def mAt (f : Nat → Int32) (k : Nat) (s h : Int32) : Nat → Int32 := fun j => if j = k then s else if j = 15 then h else f j
def mLay1 (F : Nat → Int32 → Int32 → Bool) (t s : Nat) (way : Int32) (h : Nat → Int32) : Nat → Int32 :=
  if h s = -9 then h else if nI t < h s then h else if mTo (nI s) way = -9 then h else if ¬ h (mTo (nI s) way).toNatClampNeg = -9 then h else if F t (nI s) way then h else upd h (mTo (nI s) way).toNatClampNeg (nI t + 1)
def mLayW (F : Nat → Int32 → Int32 → Bool) (t s : Nat) (h : Nat → Int32) : Nat → Nat → Int32
  | 0 => h
  | w + 1 => mLay1 F t s (nI w) (mLayW F t s h w)
def mLayS (F : Nat → Int32 → Int32 → Bool) (t : Nat) (h : Nat → Int32) : Nat → Nat → Int32
  | 0 => h
  | s + 1 => mLayW F t s (mLayS F t h s) 2
def mLayT (F : Nat → Int32 → Int32 → Bool) (h : Nat → Int32) : Nat → Nat → Int32
  | 0 => h
  | t + 1 => mLayS F t (mLayT F h t) 10
def mH0 (s : Int32) : Nat → Int32 := fun j => if nI j = s then 0 else -9
def mHold1 (to ff kn : Int32) : Bool := decide (to = -9) || (decide (ff = 0) || !decide (ff &&& kn = 0))
def mUp (f : Nat → Int32) (k : Nat) (x : Int32) : Nat → Int32 := fun j => if j = 10 + k then f (10 + k) ||| x else f j
def mTeach (na : Nat) (kn : Int32) (ok : Nat → Bool) : Nat → Int32
  | 0 => -9
  | t + 1 => if nI t &&& kn = 0 ∧ (mTeach na kn ok t = -9 ∨ sMn (nI t) < sMn (mTeach na kn ok t)) ∧ ok t = true then nI t else mTeach na kn ok t
def mTeachQ (na : Nat) (kn : Int32) (ok : Nat → Bool) (g : Nat → Nat → Int32) (q : Nat → Int32) : Nat → Nat → Int32
  | 0 => q
  | t + 1 => if nI t &&& kn = 0 ∧ (mTeach na kn ok t = -9 ∨ sMn (nI t) < sMn (mTeach na kn ok t)) then g t else mTeachQ na kn ok g q t
def mPow (a : Int32) : Nat → Int32
  | 0 => 1
  | n + 1 => mPow a n * a
def mWays (n : Nat) : Int32 := if n = 0 then 1 else if n = 1 then 1 else if n = 2 then 2 else if n = 3 then 6 else if n = 4 then 24 else 120
def mBar1 (to ff some : Int32) : Int32 := if to = -9 then 0 else if ff &&& some = 0 then 0 else 1
theorem mAt_k (f : Nat → Int32) (k : Nat) (s h : Int32) : mAt f k s h k = s := by simp [mAt]
theorem mTo_of {st way : Int32} (h : ¬ mTo st way = -9) : ∃ q, q < 10 ∧ mTo st way = nI q ∧ (mTo st way).toNatClampNeg = q := by
  unfold mTo at h ⊢
  by_cases hi : isN 10 (st + (if way = 1 then 1 else -1)) = true
  · obtain ⟨q, hq, he⟩ := isN_of (by decide) hi
    refine ⟨q, hq, by rw [if_pos hi, he], by rw [if_pos hi, he]; exact nI_clamp (by omega)⟩
  · exact absurd (if_neg hi) h
def mDoes (nm na : Nat) (fw fs fv fc P : Nat → Int32) (d : Nat) : Bool × (Nat → Int32) :=
  if d = 0 then (true, upd P 15 (P 15 + 1))
  else if 1 ≤ d / 10 ∧ d / 10 ≤ 5 then
    (if d / 10 - 1 < nm ∧ d % 10 < 2 ∧ ¬ mTo (P (d / 10 - 1)) (nI (d % 10)) = -9 ∧ mFF nm na fw fs fv fc P (d / 10 - 1) (nI (d % 10)) = 0 then (true, mGoF P (d / 10 - 1) (mTo (P (d / 10 - 1)) (nI (d % 10))) (mFF nm na fw fs fv fc P (d / 10 - 1) (nI (d % 10)))) else (false, P))
  else if ¬ d % 10 < nm then (false, P)
  else if d / 10 = 6 ∧ ¬ P (5 + d % 10) = 3 then (true, upd P (5 + d % 10) 3)
  else if d / 10 = 7 ∧ ¬ P (10 + d % 10) = 0 then (true, upd P (10 + d % 10) 0)
  else (false, upd P (10 + d % 10) (P (10 + d % 10)))
theorem isB_nI {a b v : Nat} (ha : a < 2 ^ 31) (hb : b < 2 ^ 31) (hv : v < 2 ^ 31) : isB (nI a) (nI b) (nI v) = (decide (a ≤ v) && decide (v ≤ b)) := by
  unfold isB
  have e1 : (nI v < nI a) = (v < a) := propext (nI_ltI hv ha)
  have e2 : (nI b < nI v) = (b < v) := propext (nI_ltI hb hv)
  simp only [e1, e2]
  by_cases h1 : v < a <;> by_cases h2 : b < v <;> simp [h1, h2] <;> omega
def mJudge (nm na : Nat) (fw fs fv fc : Nat → Int32) (nn rw : Nat) : Nat → Nat → (Nat → Int32) → Int32 × (Nat → Int32)
  | 0, _, P => (-9, P)
  | n + 1, j, P =>
    if (mDoes nm na fw fs fv fc P (rw / 100 ^ (nn - 1 - j) % 100)).1 then mJudge nm na fw fs fv fc nn rw n (j + 1) (mDoes nm na fw fs fv fc P (rw / 100 ^ (nn - 1 - j) % 100)).2
    else (nI j, (mDoes nm na fw fs fv fc P (rw / 100 ^ (nn - 1 - j) % 100)).2)
theorem mJudge_s (nm na : Nat) (fw fs fv fc : Nat → Int32) (nn rw n j : Nat) (P : Nat → Int32) : mJudge nm na fw fs fv fc nn rw (n + 1) j P = if (mDoes nm na fw fs fv fc P (rw / 100 ^ (nn - 1 - j) % 100)).1 then mJudge nm na fw fs fv fc nn rw n (j + 1) (mDoes nm na fw fs fv fc P (rw / 100 ^ (nn - 1 - j) % 100)).2
    else (nI j, (mDoes nm na fw fs fv fc P (rw / 100 ^ (nn - 1 - j) % 100)).2) := rfl
theorem mPow_nI (a : Nat) : ∀ n, mPow (nI a) n = nI (a ^ n)
  | 0 => rfl
  | n + 1 => by rw [mPow, mPow_nI a n, Nat.pow_succ]; exact pk_mul _ _
theorem mLayW_s (F : Nat → Int32 → Int32 → Bool) (t s : Nat) (h : Nat → Int32) (w : Nat) : mLayW F t s h (w + 1) = mLay1 F t s (nI w) (mLayW F t s h w) := rfl
section LAY
variable {F : Nat → Int32 → Int32 → Bool} {t s : Nat} {way : Int32} {h : Nat → Int32} {q : Nat}
theorem mLay1_a (h1 : h s = -9) : mLay1 F t s way h = h := by rw [mLay1, if_pos h1]
theorem mLay1_b (h1 : ¬ h s = -9) (h2 : nI t < h s) : mLay1 F t s way h = h := by rw [mLay1, if_neg h1, if_pos h2]
theorem mLay1_c (h1 : ¬ h s = -9) (h2 : ¬ nI t < h s) (h3 : mTo (nI s) way = -9) : mLay1 F t s way h = h := by rw [mLay1, if_neg h1, if_neg h2, if_pos h3]
theorem mLay1_d (h1 : ¬ h s = -9) (h2 : ¬ nI t < h s) (h3 : ¬ mTo (nI s) way = -9) (hq : (mTo (nI s) way).toNatClampNeg = q) (h4 : ¬ h q = -9) : mLay1 F t s way h = h := by rw [mLay1, if_neg h1, if_neg h2, if_neg h3, hq, if_pos h4]
theorem mLay1_e (h1 : ¬ h s = -9) (h2 : ¬ nI t < h s) (h3 : ¬ mTo (nI s) way = -9) (hq : (mTo (nI s) way).toNatClampNeg = q) (h4 : h q = -9) (h5 : F t (nI s) way = true) : mLay1 F t s way h = h := by rw [mLay1, if_neg h1, if_neg h2, if_neg h3, hq, if_neg (fun z => z h4), if_pos h5]
theorem mLay1_f (h1 : ¬ h s = -9) (h2 : ¬ nI t < h s) (h3 : ¬ mTo (nI s) way = -9) (hq : (mTo (nI s) way).toNatClampNeg = q) (h4 : h q = -9) (h5 : F t (nI s) way = false) : mLay1 F t s way h = upd h q (nI t + 1) := by rw [mLay1, if_neg h1, if_neg h2, if_neg h3, hq, if_neg (fun z => z h4), if_neg (by rw [h5]; decide)]
end LAY
theorem shl_nI : ∀ {na : Nat}, na ≤ 5 → (1 : Int32) <<< (nI na &&& 31) = nI (2 ^ na) := by
  intro na h
  rcases (show na = 0 ∨ na = 1 ∨ na = 2 ∨ na = 3 ∨ na = 4 ∨ na = 5 by omega) with rfl | rfl | rfl | rfl | rfl | rfl <;> decide
theorem pw100 {n : Nat} (h : n ≤ 4) : 1 ≤ 100 ^ n ∧ 100 ^ n ≤ 100000000 := by
  rcases (show n = 0 ∨ n = 1 ∨ n = 2 ∨ n = 3 ∨ n = 4 by omega) with rfl | rfl | rfl | rfl | rfl <;> decide
theorem mBk_f {nm na : Nat} {fw fs fv fc f : Nat → Int32} {k : Nat} {way : Int32} (h : mBk nm na fw fs fv fc f k way = false) : mFF nm na fw fs fv fc f k way &&& mKnown na (f (5 + k)) (f (10 + k)) = 0 := by simpa [mBk] using h
theorem mBk_t {nm na : Nat} {fw fs fv fc f : Nat → Int32} {k : Nat} {way : Int32} (h : mBk nm na fw fs fv fc f k way = true) : ¬ mFF nm na fw fs fv fc f k way &&& mKnown na (f (5 + k)) (f (10 + k)) = 0 := by simpa [mBk] using h
