/-! what the methods answer: plain functions of numbers -/
def orBits (p : Nat → Bool) : Nat → Int32
  | 0 => 0
  | n + 1 => if p n then orBits p n ||| ((1 : Int32) <<< (nI n &&& 31)) else orBits p n
def cntI (p : Nat → Bool) : Nat → Int32
  | 0 => 0
  | n + 1 => if p n then cntI p n + 1 else cntI p n
def hbit (x a : Int32) : Bool := !decide ((x >>> (a &&& 31)) &&& 1 = 0)
def sAll (na : Nat) : Int32 := ((1 : Int32) <<< (nI na &&& 31)) - 1
def sLast (na : Nat) : Int32 := if 0 < na then (1 : Int32) <<< ((nI na - 1) &&& 31) else 0
def sNext (st way : Int32) : Int32 := if way = 1 then st + 1 else st - 1
def sBarA (so va coat hour way : Int32) : Bool := if so = 0 then decide (coat = va - va / 4 * 4) else if so = 1 then decide (hour < va) else if so = 2 then decide (¬ way = va - va / 2 * 2) else false
def sBar (st so va onto coat hour way others : Int32) : Bool := if st = onto then (if so = 3 then decide (others < va - va / 5 * 5) else sBarA so va coat hour way) else false
def sFirst (b : Int32) : Int32 := if hbit b 0 then 0 else if hbit b 1 then 1 else if hbit b 2 then 2 else if hbit b 3 then 3 else if hbit b 4 then 4 else -9
def sKnown (na : Nat) (kind shown : Int32) : Int32 := if kind = 0 then shown ||| (21 &&& sAll na) else if kind = 1 then sAll na else if kind = 2 then shown else if kind = 3 then sLast na else 0
def sRef (st way : Int32) : Int32 := if isN 2 way then (if isN 10 (sNext st way) then 0 else -3) else -2
def sOth (nm : Nat) (st : Nat → Int32) (k : Nat) (onto : Int32) : Int32 := cntI (fun o => !decide (o = k) && !decide (st o < onto)) nm
def sForb (na : Nat) (l0 l1 l2 : Nat → Int32) (onto coat hour way others : Int32) : Int32 := orBits (fun a => sBar (l0 a) (l1 a) (l2 a) onto coat hour way others) na
def sFF (nm na : Nat) (l0 l1 l2 co st : Nat → Int32) (k : Nat) (frm way hour : Int32) : Int32 := if isN 10 (sNext frm way) then sForb na l0 l1 l2 (sNext frm way) (co k) (hour - hour / 10 * 10) way (sOth nm st k (sNext frm way)) else -1
def sBalk (b kn : Int32) : Int32 := if b = -1 then 0 else b &&& kn
def sGoes (b kn : Int32) : Bool := !decide (b = -1) && decide (b &&& kn = 0)
theorem isN_lt0 {n : Nat} {m : Int32} (h : m < 0) : isN n m = false := isN_neg (i32_lt0.mp h)
theorem isN_ge {n : Nat} {m : Int32} (h : nI n ≤ m) : isN n m = false := isN_big (i32_nlt.mpr h)
theorem isN_yes {n : Nat} {m : Int32} (h : ¬ m < 0) (h2 : ¬ nI n ≤ m) : isN n m = true := by
  simp only [isN, Bool.and_eq_true, decide_eq_true_eq]
  exact ⟨i32_nlt.mp h, i32_nle.mp h2⟩
theorem isN_cap {n : Nat} {m : Int32} (c : Nat) (hc : c < 2 ^ 31) (hn : n ≤ c) (h2 : ¬ nI n ≤ m) : ¬ nI c ≤ m := by
  rw [i32_nle] at h2 ⊢
  simp only [Int32.lt_iff_toInt_lt] at h2 ⊢
  rw [nI_toInt (by omega)] at h2 ⊢
  omega
theorem isN_2 (x : Int32) : isN 2 x = (decide (x = 0) || decide (x = 1)) := by
  by_cases h : isN 2 x = true
  · obtain ⟨k, hk, rfl⟩ := isN_of (by decide) h
    rcases (show k = 0 ∨ k = 1 by omega) with rfl | rfl <;> rfl
  · by_cases h0 : x = 0
    · subst h0; rfl
    · by_cases h1 : x = 1
      · subst h1; rfl
      · simp only [h0, h1, decide_false, Bool.or_self]
        simpa using h
theorem isN_01 {x : Int32} (h : isN 2 x = true) : x = 0 ∨ x = 1 := by
  rw [isN_2] at h
  simpa using h
theorem hbit_f {x a : Int32} (h : (x >>> (a &&& 31)) &&& 1 = 0) : hbit x a = false := by simp only [hbit, h, decide_true, Bool.not_true]
theorem hbit_t {x a : Int32} (h : ¬ (x >>> (a &&& 31)) &&& 1 = 0) : hbit x a = true := by simp only [hbit, h, decide_false, Bool.not_false]
