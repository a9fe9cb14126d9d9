/-! the reference reads a text -/
abbrev RV : Type := Nat × Nat × Nat × (Nat → Int32) × (Nat → Int32)
def rOk (f : Nat → Int32) (tn pl : Nat) (b : Int32) : Bool := !decide (pl = tn) && isB 0 b (f pl - 48)
def rOne (b0 b1 b2 : Int32) (f : Nat → Int32) (tn pl : Nat) : Nat := if rOk f tn pl b0 then (if rOk f tn (pl + 1) b1 then (if rOk f tn (pl + 2) b2 then 3 else 2) else 1) else 0
def rPut (g : Nat → Int32) (base : Nat) (f : Nat → Int32) (pl : Nat) : Nat → Nat → Int32
  | 0 => g
  | n + 1 => upd (rPut g base f pl n) (base + n) (f (pl + n) - 48)
def rPart (f : Nat → Int32) (tn : Nat) (v : RV) : Bool × RV :=
  if f v.1 = 65 ∧ v.2.2.1 < 5 then
    (decide (rOne 9 3 9 f tn (v.1 + 1) = 3), (v.1 + 1 + rOne 9 3 9 f tn (v.1 + 1), v.2.1, (if rOne 9 3 9 f tn (v.1 + 1) = 3 then v.2.2.1 + 1 else v.2.2.1), v.2.2.2.1, rPut v.2.2.2.2 (3 * v.2.2.1) f (v.1 + 1) (rOne 9 3 9 f tn (v.1 + 1))))
  else if f v.1 = 77 ∧ v.2.1 < 5 then
    (decide (rOne 9 3 3 f tn (v.1 + 1) = 3), (v.1 + 1 + rOne 9 3 3 f tn (v.1 + 1), (if rOne 9 3 3 f tn (v.1 + 1) = 3 then v.2.1 + 1 else v.2.1), v.2.2.1, rPut v.2.2.2.1 (3 * v.2.1) f (v.1 + 1) (rOne 9 3 3 f tn (v.1 + 1)), v.2.2.2.2))
  else (false, v)
def rLoop (f : Nat → Int32) (tn : Nat) : Nat → RV → Int32 × RV
  | 0, v => (-9, v)
  | n + 1, v => if v.1 < tn then (if (rPart f tn v).1 then rLoop f tn n (rPart f tn v).2 else (nI (rPart f tn v).2.1, (rPart f tn v).2)) else (-9, v)
theorem rLoop_s (f : Nat → Int32) (tn n : Nat) (v : RV) : rLoop f tn (n + 1) v = if v.1 < tn then (if (rPart f tn v).1 then rLoop f tn n (rPart f tn v).2 else (nI (rPart f tn v).2.1, (rPart f tn v).2)) else (-9, v) := rfl
def rTreaty (f : Nat → Int32) (tn : Nat) (mr mx : Nat → Int32) : Int32 × RV := if tn = 0 then (0, (0, 0, 0, mr, mx)) else if f 0 = 77 then rLoop f tn 13 (1, 0, 0, mr, mx) else (0, (0, 0, 0, mr, mx))
theorem rOne_le {b0 b1 b2 : Int32} {f : Nat → Int32} {tn pl : Nat} (h : pl ≤ tn) : pl + rOne b0 b1 b2 f tn pl ≤ tn := by
  unfold rOne
  have key : ∀ p b, rOk f tn p b = true → p ≠ tn := by
    intro p b hp
    simp only [rOk, Bool.and_eq_true, Bool.not_eq_true', decide_eq_false_iff_not] at hp
    exact hp.1
  by_cases h0 : rOk f tn pl b0 = true
  · rw [if_pos h0]
    have := key _ _ h0
    by_cases h1 : rOk f tn (pl + 1) b1 = true
    · rw [if_pos h1]
      have := key _ _ h1
      by_cases h2 : rOk f tn (pl + 2) b2 = true
      · rw [if_pos h2]
        have := key _ _ h2
        omega
      · rw [if_neg h2]; omega
    · rw [if_neg h1]; omega
  · rw [if_neg h0]; omega
theorem rPart_inv {f : Nat → Int32} {tn : Nat} {v : RV} (h : v.1 < tn) (h1 : v.2.1 ≤ 5) (h2 : v.2.2.1 ≤ 5) (hok : (rPart f tn v).1 = true) : (rPart f tn v).2.1 = v.1 + 4 ∧ (rPart f tn v).2.1 ≤ tn ∧ (rPart f tn v).2.2.1 ≤ 5 ∧ (rPart f tn v).2.2.2.1 ≤ 5 := by
  unfold rPart at hok ⊢
  split at hok
  · rename_i hc
    rw [if_pos hc]
    have h3 : rOne 9 3 9 f tn (v.1 + 1) = 3 := by simpa using hok
    have h4 := rOne_le (b0 := 9) (b1 := 3) (b2 := 9) (f := f) (tn := tn) (pl := v.1 + 1) (by omega)
    rw [h3] at h4
    simp only [h3, if_true]
    show True ∧ v.1 + 1 + 3 ≤ tn ∧ v.2.1 ≤ 5 ∧ v.2.2.1 + 1 ≤ 5
    exact ⟨trivial, by omega, h1, by omega⟩
  · rename_i hc
    rw [if_neg hc]
    split at hok
    · rename_i hc2
      rw [if_pos hc2]
      have h3 : rOne 9 3 3 f tn (v.1 + 1) = 3 := by simpa using hok
      have h4 := rOne_le (b0 := 9) (b1 := 3) (b2 := 3) (f := f) (tn := tn) (pl := v.1 + 1) (by omega)
      rw [h3] at h4
      simp only [h3, if_true]
      show True ∧ v.1 + 1 + 3 ≤ tn ∧ v.2.1 + 1 ≤ 5 ∧ v.2.2.1 ≤ 5
      exact ⟨trivial, by omega, by omega, h2⟩
    · cases hok
theorem rOk_ne {f : Nat → Int32} {tn pl : Nat} {b : Int32} (h : rOk f tn pl b = true) : ¬ f pl - 48 = -9 := by
  intro e
  simp only [rOk, e, Bool.and_eq_true] at h
  have h2 := h.2
  simp only [isB, Bool.and_eq_true, Bool.not_eq_true', decide_eq_false_iff_not] at h2
  exact h2.1 (by decide)
theorem rOk_lt {f : Nat → Int32} {tn pl : Nat} {b : Int32} (h : rOk f tn pl b = true) (hp : pl ≤ tn) : pl < tn := by
  simp only [rOk, Bool.and_eq_true, Bool.not_eq_true', decide_eq_false_iff_not] at h
  omega
def tPage (mr : Nat → Int32) (n : Nat) : Nat → Int32 := fun j => if j < n then mr (3 * j) else if 5 ≤ j ∧ j < 5 + n then mr (3 * (j - 5) + 2) else 0
def tCol (mr g : Nat → Int32) (c n : Nat) : Nat → Int32 := fun j => if j < n then mr (3 * j + c) else g j
theorem tCol_0 (mr g : Nat → Int32) (c : Nat) : tCol mr g c 0 = g := by funext k; simp [tCol]
theorem tCol_s (mr g : Nat → Int32) (c j : Nat) : upd (tCol mr g c j) j (mr (3 * j + c)) = tCol mr g c (j + 1) := by
  funext k
  by_cases h : k = j
  · subst h; simp [tCol, upd]
  · have : k < j + 1 ↔ k < j := by omega
    simp [tCol, upd, h, this]
theorem tPage_0 (mr : Nat → Int32) : tPage mr 0 = fun _ => 0 := by funext k; simp [tPage]; omega
theorem tPage_s {mr : Nat → Int32} {j : Nat} (hj : j < 5) : upd (upd (tPage mr j) j (mr (3 * j))) (5 + j) (mr (3 * j + 2)) = tPage mr (j + 1) := by
  funext k
  by_cases h : k = j
  · subst h
    simp [tPage, upd, show ¬ k = 5 + k by omega]
  · by_cases h2 : k = 5 + j
    · subst h2
      simp [tPage, upd, show ¬ 5 + j < j + 1 by omega]
    · have a1 : k < j + 1 ↔ k < j := by omega
      have a2 : (5 ≤ k ∧ k < 5 + (j + 1)) ↔ (5 ≤ k ∧ k < 5 + j) := by omega
      simp [tPage, upd, h, h2, a1, a2]
