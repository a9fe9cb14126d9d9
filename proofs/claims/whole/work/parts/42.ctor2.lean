/-! the states that the system makes, one by one -/
theorem va_up_push {ad : Nat → Nat → Nat} {j v : Nat} {a : Nat → Nat} (hv : a 0 = v) : va_up (fun i => if i < j then some (ad i 0) else none) j (some v) = fun i => if i < j + 1 then some (adU ad j a i 0) else none := by
  subst hv
  funext i
  by_cases h : i = j
  · subst h; simp [va_up, adU]
  · have e : i < j + 1 ↔ i < j := by omega
    simp [va_up, adU, h, e]
theorem va_up_push2 {ad : Nat → Nat → Nat} {j v : Nat} {a : Nat → Nat} (hv : a 0 = v) : va_up (fun i => if i < j then some (ad (14 + i) 0) else none) j (some v) = fun i => if i < j + 1 then some (adU ad (14 + j) a (14 + i) 0) else none := by
  subst hv
  funext i
  by_cases h : i = j
  · subst h; simp [va_up, adU]
  · have e : i < j + 1 ↔ i < j := by omega
    simp [va_up, adU, h, e]
theorem va_up_keep {ad : Nat → Nat → Nat} {j : Nat} {a : Nat → Nat} : (fun i => if i < 14 then some (ad i 0) else none) = fun i => if i < 14 then some (adU ad (14 + j) a i 0) else none := by
  funext i
  by_cases h : i < 14
  · have : ¬ i = 14 + j := by omega
    simp [adU, h, this]
  · simp [h]
